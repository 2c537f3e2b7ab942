/-! the words that keep, each by its place in the tables -/
def gw_T : List Cond := lw_tbl.filter goodWord
theorem gw_in {w : Cond} (i : Nat) (h : tables_1[i]? = some w) (hg : goodWord w = true) : w ∈ gw_T := List.mem_filter.mpr ⟨List.mem_append_right _ (List.mem_of_getElem? (i := i) h), hg⟩
theorem gw_ip {w : Cond} (i : Nat) (h : (k2_sels lw_privs)[i]? = some w) (hg : goodWord w = true) : w ∈ gw_T := List.mem_filter.mpr ⟨List.mem_append_left _ (List.mem_of_getElem? (i := i) h), hg⟩
theorem gw_good {w : Cond} (h : w ∈ gw_T) : goodWord w = true := (List.mem_filter.mp h).2
theorem gw_of {args : Array Value} {s : State} (h : ∀ w ∈ lw_tbl, w.before args s = true) : ∀ w ∈ gw_T, w.before args s = true := fun w hw => h w (List.mem_filter.mp hw).1
/-- a method: its code, and all the words -/
def gw (y : MethodName) (b : ByteArray) (n : Nat) (r : Option FieldType) : List Cond := .code y b n r :: gw_T
theorem gw_GoodIn {y : MethodName} {b : ByteArray} {n : Nat} {r : Option FieldType} (h : Cond.code y b n r ∈ gw_T) : GoodIn gw_T (gw y b n r) := fun w hw => by
  rcases List.mem_cons.mp hw with rfl | hw
  · exact ⟨h, good_of_word (gw_good h)⟩
  · exact ⟨hw, good_of_word (gw_good hw)⟩
theorem mw_0 : (Cond.initialized "WriteOnceVaultLaw") ∈ gw_T := gw_in 0 (by decide +kernel) rfl
theorem mw_1 : (Cond.initialized "WriteOnceVault") ∈ gw_T := gw_in 1 (by decide +kernel) rfl
theorem mw_2 : (Cond.initialized "WriteOnceVault$Image") ∈ gw_T := gw_in 2 (by decide +kernel) rfl
theorem mw_3 : (Cond.initialized "WriteOnceVault$Catalog") ∈ gw_T := gw_in 3 (by decide +kernel) rfl
theorem mw_4 : (Cond.initialized "WriteOnceVault$Descent") ∈ gw_T := gw_in 4 (by decide +kernel) rfl
theorem mw_5 : (Cond.initialized "WriteOnceVault$FedWords") ∈ gw_T := gw_in 5 (by decide +kernel) rfl
theorem mw_6 : (Cond.initialized "WriteOnceVaultModel") ∈ gw_T := gw_in 6 (by decide +kernel) rfl
theorem mw_7 : (Cond.initialized "WriteOnceVault$Digests") ∈ gw_T := gw_in 7 (by decide +kernel) rfl
theorem mw_8 : (Cond.initialized "java/lang/Integer") ∈ gw_T := gw_in 8 (by decide +kernel) rfl
theorem mw_9 : (Cond.classLink "WriteOnceVaultLaw" 7 "WriteOnceVault") ∈ gw_T := gw_in 9 (by decide +kernel) rfl
theorem mw_10 : (Cond.instantiable "WriteOnceVault" 9) ∈ gw_T := gw_in 10 (by decide +kernel) rfl
theorem mw_11 : (Cond.methodLink "WriteOnceVaultLaw" 9 yn_X_init) ∈ gw_T := gw_in 11 (by decide +kernel) rfl
theorem mw_12 : (Cond.instanceMethod yn_X_init) ∈ gw_T := gw_in 12 (by decide +kernel) rfl
set_option maxRecDepth 20000 in
theorem mw_13 : (Cond.code yn_X_init cn_X_init 1 none) ∈ gw_T := gw_in 13 rfl rfl
theorem mw_14 : (Cond.methodLink "WriteOnceVault" 1 yn_O_init) ∈ gw_T := gw_in 14 (by decide +kernel) rfl
theorem mw_15 : (Cond.instanceMethod yn_O_init) ∈ gw_T := gw_in 15 (by decide +kernel) rfl
set_option maxRecDepth 20000 in
theorem mw_16 : (Cond.code yn_O_init cn_O_init 1 none) ∈ gw_T := gw_in 16 rfl rfl
theorem mw_17 : (Cond.classLink "WriteOnceVault" 7 "WriteOnceVault$Image") ∈ gw_T := gw_in 17 (by decide +kernel) rfl
theorem mw_18 : (Cond.instantiable "WriteOnceVault$Image" 2) ∈ gw_T := gw_in 18 (by decide +kernel) rfl
theorem mw_19 : (Cond.methodLinkNest "WriteOnceVault" 9 yn_G_init "WriteOnceVault") ∈ lw_tbl := List.mem_append_right _ (List.mem_of_getElem? (i := 19) (by decide +kernel))
theorem mw_20 : (Cond.instanceMethod yn_G_init) ∈ gw_T := gw_in 20 (by decide +kernel) rfl
set_option maxRecDepth 20000 in
theorem mw_21 : (Cond.code yn_G_init cn_G_init 1 none) ∈ gw_T := gw_in 21 rfl rfl
theorem mw_22 : (Cond.methodLink "WriteOnceVault$Image" 3 yn_O_init) ∈ gw_T := gw_in 22 (by decide +kernel) rfl
theorem mw_23 : (Cond.fieldLink "WriteOnceVault$Image" 11 "WriteOnceVault$Image" "words" "[I") ∈ gw_T := gw_in 23 (by decide +kernel) rfl
theorem mw_24 : (Cond.fieldLink "WriteOnceVault$Image" 15 "WriteOnceVault$Image" "level" "[I") ∈ gw_T := gw_in 24 (by decide +kernel) rfl
theorem mw_25 : (Cond.laysFinal "WriteOnceVault$Image" "WriteOnceVault$Image" "words" "[I") ∈ gw_T := gw_in 25 (by decide +kernel) rfl
theorem mw_27 : (Cond.laysFinal "WriteOnceVault$Image" "WriteOnceVault$Image" "level" "[I") ∈ gw_T := gw_in 27 (by decide +kernel) rfl
theorem mw_30 : (Cond.arrayClass .int) ∈ gw_T := gw_in 30 (by decide +kernel) rfl
theorem mw_31 : (Cond.classLink "WriteOnceVault" 16 "WriteOnceVault$Catalog") ∈ gw_T := gw_in 31 (by decide +kernel) rfl
theorem mw_32 : (Cond.instantiable "WriteOnceVault$Catalog" 6) ∈ gw_T := gw_in 32 (by decide +kernel) rfl
theorem mw_33 : (Cond.methodLinkNest "WriteOnceVault" 18 yn_C_init "WriteOnceVault") ∈ lw_tbl := List.mem_append_right _ (List.mem_of_getElem? (i := 33) (by decide +kernel))
theorem mw_34 : (Cond.instanceMethod yn_C_init) ∈ gw_T := gw_in 34 (by decide +kernel) rfl
set_option maxRecDepth 20000 in
theorem mw_35 : (Cond.code yn_C_init cn_C_init 1 none) ∈ gw_T := gw_in 35 rfl rfl
theorem mw_36 : (Cond.methodLink "WriteOnceVault$Catalog" 3 yn_O_init) ∈ gw_T := gw_in 36 (by decide +kernel) rfl
theorem mw_37 : (Cond.fieldLink "WriteOnceVault$Catalog" 9 "WriteOnceVault$Catalog" "state" "[I") ∈ gw_T := gw_in 37 (by decide +kernel) rfl
theorem mw_38 : (Cond.fieldLink "WriteOnceVault$Catalog" 15 "WriteOnceVault$Catalog" "date" "[I") ∈ gw_T := gw_in 38 (by decide +kernel) rfl
theorem mw_39 : (Cond.fieldLink "WriteOnceVault$Catalog" 18 "WriteOnceVault$Catalog" "holds" "[I") ∈ gw_T := gw_in 39 (by decide +kernel) rfl
theorem mw_40 : (Cond.fieldLink "WriteOnceVault$Catalog" 21 "WriteOnceVault$Catalog" "putRecord" "[I") ∈ gw_T := gw_in 40 (by decide +kernel) rfl
theorem mw_41 : (Cond.fieldLink "WriteOnceVault$Catalog" 24 "WriteOnceVault$Catalog" "objects" "I") ∈ gw_T := gw_in 41 (by decide +kernel) rfl
theorem mw_42 : (Cond.fieldLink "WriteOnceVault$Catalog" 28 "WriteOnceVault$Catalog" "entered" "I") ∈ gw_T := gw_in 42 (by decide +kernel) rfl
theorem mw_43 : (Cond.laysFinal "WriteOnceVault$Catalog" "WriteOnceVault$Catalog" "state" "[I") ∈ gw_T := gw_in 43 (by decide +kernel) rfl
theorem mw_45 : (Cond.laysFinal "WriteOnceVault$Catalog" "WriteOnceVault$Catalog" "date" "[I") ∈ gw_T := gw_in 45 (by decide +kernel) rfl
theorem mw_47 : (Cond.laysFinal "WriteOnceVault$Catalog" "WriteOnceVault$Catalog" "holds" "[I") ∈ gw_T := gw_in 47 (by decide +kernel) rfl
theorem mw_49 : (Cond.laysFinal "WriteOnceVault$Catalog" "WriteOnceVault$Catalog" "putRecord" "[I") ∈ gw_T := gw_in 49 (by decide +kernel) rfl
theorem mw_51 : (Cond.lays "WriteOnceVault$Catalog" "WriteOnceVault$Catalog" "objects" "I") ∈ gw_T := gw_in 51 (by decide +kernel) rfl
theorem mw_53 : (Cond.lays "WriteOnceVault$Catalog" "WriteOnceVault$Catalog" "entered" "I") ∈ gw_T := gw_in 53 (by decide +kernel) rfl
theorem mw_56 : (Cond.classLink "WriteOnceVault" 26 "WriteOnceVault$Descent") ∈ gw_T := gw_in 56 (by decide +kernel) rfl
theorem mw_57 : (Cond.instantiable "WriteOnceVault$Descent" 7) ∈ gw_T := gw_in 57 (by decide +kernel) rfl
theorem mw_58 : (Cond.methodLinkNest "WriteOnceVault" 28 yn_E_init "WriteOnceVault") ∈ lw_tbl := List.mem_append_right _ (List.mem_of_getElem? (i := 58) (by decide +kernel))
theorem mw_59 : (Cond.instanceMethod yn_E_init) ∈ gw_T := gw_in 59 (by decide +kernel) rfl
set_option maxRecDepth 20000 in
theorem mw_60 : (Cond.code yn_E_init cn_E_init 1 none) ∈ gw_T := gw_in 60 rfl rfl
theorem mw_61 : (Cond.methodLink "WriteOnceVault$Descent" 1 yn_O_init) ∈ gw_T := gw_in 61 (by decide +kernel) rfl
theorem mw_62 : (Cond.fieldLink "WriteOnceVault$Descent" 9 "WriteOnceVault$Descent" "wentRight" "[Z") ∈ gw_T := gw_in 62 (by decide +kernel) rfl
theorem mw_63 : (Cond.fieldLink "WriteOnceVault$Descent" 13 "WriteOnceVault$Descent" "sideFirst" "[I") ∈ gw_T := gw_in 63 (by decide +kernel) rfl
theorem mw_64 : (Cond.fieldLink "WriteOnceVault$Descent" 17 "WriteOnceVault$Descent" "sideCount" "[I") ∈ gw_T := gw_in 64 (by decide +kernel) rfl
theorem mw_65 : (Cond.fieldLink "WriteOnceVault$Descent" 20 "WriteOnceVault$Descent" "steps" "I") ∈ gw_T := gw_in 65 (by decide +kernel) rfl
theorem mw_66 : (Cond.fieldLink "WriteOnceVault$Descent" 24 "WriteOnceVault$Descent" "footFirst" "I") ∈ gw_T := gw_in 66 (by decide +kernel) rfl
theorem mw_67 : (Cond.fieldLink "WriteOnceVault$Descent" 27 "WriteOnceVault$Descent" "footCount" "I") ∈ gw_T := gw_in 67 (by decide +kernel) rfl
theorem mw_68 : (Cond.fieldLink "WriteOnceVault$Descent" 30 "WriteOnceVault$Descent" "footIsShown" "Z") ∈ gw_T := gw_in 68 (by decide +kernel) rfl
theorem mw_69 : (Cond.laysFinal "WriteOnceVault$Descent" "WriteOnceVault$Descent" "wentRight" "[Z") ∈ gw_T := gw_in 69 (by decide +kernel) rfl
theorem mw_71 : (Cond.laysFinal "WriteOnceVault$Descent" "WriteOnceVault$Descent" "sideFirst" "[I") ∈ gw_T := gw_in 71 (by decide +kernel) rfl
theorem mw_73 : (Cond.laysFinal "WriteOnceVault$Descent" "WriteOnceVault$Descent" "sideCount" "[I") ∈ gw_T := gw_in 73 (by decide +kernel) rfl
theorem mw_75 : (Cond.lays "WriteOnceVault$Descent" "WriteOnceVault$Descent" "steps" "I") ∈ gw_T := gw_in 75 (by decide +kernel) rfl
theorem mw_77 : (Cond.lays "WriteOnceVault$Descent" "WriteOnceVault$Descent" "footFirst" "I") ∈ gw_T := gw_in 77 (by decide +kernel) rfl
theorem mw_79 : (Cond.lays "WriteOnceVault$Descent" "WriteOnceVault$Descent" "footCount" "I") ∈ gw_T := gw_in 79 (by decide +kernel) rfl
theorem mw_81 : (Cond.lays "WriteOnceVault$Descent" "WriteOnceVault$Descent" "footIsShown" "Z") ∈ gw_T := gw_in 81 (by decide +kernel) rfl
theorem mw_84 : (Cond.arrayClass .boolean) ∈ gw_T := gw_in 84 (by decide +kernel) rfl
theorem mw_85 : (Cond.classLink "WriteOnceVault" 33 "WriteOnceVault$FedWords") ∈ gw_T := gw_in 85 (by decide +kernel) rfl
theorem mw_86 : (Cond.instantiable "WriteOnceVault$FedWords" 2) ∈ gw_T := gw_in 86 (by decide +kernel) rfl
theorem mw_87 : (Cond.methodLinkNest "WriteOnceVault" 35 yn_F_init "WriteOnceVault") ∈ lw_tbl := List.mem_append_right _ (List.mem_of_getElem? (i := 87) (by decide +kernel))
theorem mw_88 : (Cond.instanceMethod yn_F_init) ∈ gw_T := gw_in 88 (by decide +kernel) rfl
set_option maxRecDepth 20000 in
theorem mw_89 : (Cond.code yn_F_init cn_F_init 1 none) ∈ gw_T := gw_in 89 rfl rfl
theorem mw_90 : (Cond.methodLink "WriteOnceVault$FedWords" 1 yn_O_init) ∈ gw_T := gw_in 90 (by decide +kernel) rfl
theorem mw_91 : (Cond.fieldLink "WriteOnceVault$FedWords" 9 "WriteOnceVault$FedWords" "fed" "[I") ∈ gw_T := gw_in 91 (by decide +kernel) rfl
theorem mw_92 : (Cond.fieldLink "WriteOnceVault$FedWords" 13 "WriteOnceVault$FedWords" "count" "I") ∈ gw_T := gw_in 92 (by decide +kernel) rfl
theorem mw_93 : (Cond.laysFinal "WriteOnceVault$FedWords" "WriteOnceVault$FedWords" "fed" "[I") ∈ gw_T := gw_in 93 (by decide +kernel) rfl
theorem mw_95 : (Cond.lays "WriteOnceVault$FedWords" "WriteOnceVault$FedWords" "count" "I") ∈ gw_T := gw_in 95 (by decide +kernel) rfl
theorem mw_98 : (Cond.fieldLink "WriteOnceVault" 10 "WriteOnceVault" "image" "LWriteOnceVault$Image;") ∈ gw_T := gw_in 98 (by decide +kernel) rfl
theorem mw_99 : (Cond.fieldLink "WriteOnceVault" 19 "WriteOnceVault" "catalog" "LWriteOnceVault$Catalog;") ∈ gw_T := gw_in 99 (by decide +kernel) rfl
theorem mw_100 : (Cond.fieldLink "WriteOnceVault" 23 "WriteOnceVault" "auditCatalog" "LWriteOnceVault$Catalog;") ∈ gw_T := gw_in 100 (by decide +kernel) rfl
theorem mw_101 : (Cond.fieldLink "WriteOnceVault" 29 "WriteOnceVault" "descent" "LWriteOnceVault$Descent;") ∈ gw_T := gw_in 101 (by decide +kernel) rfl
theorem mw_102 : (Cond.fieldLink "WriteOnceVault" 36 "WriteOnceVault" "fedWords" "LWriteOnceVault$FedWords;") ∈ gw_T := gw_in 102 (by decide +kernel) rfl
theorem mw_103 : (Cond.fieldLink "WriteOnceVault" 40 "WriteOnceVault" "draft" "[I") ∈ gw_T := gw_in 103 (by decide +kernel) rfl
theorem mw_104 : (Cond.fieldLink "WriteOnceVault" 44 "WriteOnceVault" "clock" "I") ∈ gw_T := gw_in 104 (by decide +kernel) rfl
theorem mw_105 : (Cond.fieldLink "WriteOnceVault" 48 "WriteOnceVault" "powered" "Z") ∈ gw_T := gw_in 105 (by decide +kernel) rfl
theorem mw_106 : (Cond.fieldLink "WriteOnceVault" 52 "WriteOnceVault" "wordsBeforeCut" "I") ∈ gw_T := gw_in 106 (by decide +kernel) rfl
theorem mw_107 : (Cond.laysFinal "WriteOnceVault" "WriteOnceVault" "image" "LWriteOnceVault$Image;") ∈ gw_T := gw_in 107 (by decide +kernel) rfl
theorem mw_109 : (Cond.laysFinal "WriteOnceVault" "WriteOnceVault" "catalog" "LWriteOnceVault$Catalog;") ∈ gw_T := gw_in 109 (by decide +kernel) rfl
theorem mw_111 : (Cond.laysFinal "WriteOnceVault" "WriteOnceVault" "auditCatalog" "LWriteOnceVault$Catalog;") ∈ gw_T := gw_in 111 (by decide +kernel) rfl
theorem mw_113 : (Cond.laysFinal "WriteOnceVault" "WriteOnceVault" "descent" "LWriteOnceVault$Descent;") ∈ gw_T := gw_in 113 (by decide +kernel) rfl
theorem mw_115 : (Cond.laysFinal "WriteOnceVault" "WriteOnceVault" "fedWords" "LWriteOnceVault$FedWords;") ∈ gw_T := gw_in 115 (by decide +kernel) rfl
theorem mw_117 : (Cond.laysFinal "WriteOnceVault" "WriteOnceVault" "draft" "[I") ∈ gw_T := gw_in 117 (by decide +kernel) rfl
theorem mw_119 : (Cond.lays "WriteOnceVault" "WriteOnceVault" "clock" "I") ∈ gw_T := gw_in 119 (by decide +kernel) rfl
theorem mw_121 : (Cond.lays "WriteOnceVault" "WriteOnceVault" "powered" "Z") ∈ gw_T := gw_in 121 (by decide +kernel) rfl
theorem mw_123 : (Cond.lays "WriteOnceVault" "WriteOnceVault" "wordsBeforeCut" "I") ∈ gw_T := gw_in 123 (by decide +kernel) rfl
theorem mw_126 : (Cond.methodLink "WriteOnceVaultLaw" 13 yn_X_put) ∈ gw_T := gw_in 126 (by decide +kernel) rfl
theorem mw_127 : (Cond.instanceMethod yn_X_put) ∈ gw_T := gw_in 127 (by decide +kernel) rfl
theorem mw_128 : (Cond.selects "WriteOnceVault" yn_X_put yn_X_put) ∈ gw_T := gw_in 128 (by decide +kernel) rfl
set_option maxRecDepth 20000 in
theorem mw_129 : (Cond.code yn_X_put cn_X_put 10 (some .int)) ∈ gw_T := gw_in 129 rfl rfl
theorem mw_130 : (Cond.methodLink "WriteOnceVault" 55 yn_C_nextId) ∈ gw_T := gw_in 130 (by decide +kernel) rfl
theorem mw_131 : (Cond.instanceMethod yn_C_nextId) ∈ gw_T := gw_in 131 (by decide +kernel) rfl
theorem mw_132 : (Cond.selects "WriteOnceVault$Catalog" yn_C_nextId yn_C_nextId) ∈ gw_T := gw_in 132 (by decide +kernel) rfl
set_option maxRecDepth 20000 in
theorem mw_133 : (Cond.code yn_C_nextId cn_C_nextId 1 (some .int)) ∈ gw_T := gw_in 133 rfl rfl
theorem mw_134 : (Cond.methodLink "WriteOnceVault" 59 yn_X_refusalOf) ∈ gw_T := gw_in 134 (by decide +kernel) rfl
theorem mw_136 : (Cond.instanceMethod yn_X_refusalOf) ∈ gw_T := gw_in 136 (by decide +kernel) rfl
set_option maxRecDepth 20000 in
theorem mw_137 : (Cond.code yn_X_refusalOf cn_X_refusalOf 4 (some .int)) ∈ gw_T := gw_in 137 rfl rfl
theorem mw_138 : (Cond.methodLink "WriteOnceVault" 163 yn_C_verdict) ∈ gw_T := gw_in 138 (by decide +kernel) rfl
theorem mw_139 : (Cond.instanceMethod yn_C_verdict) ∈ gw_T := gw_in 139 (by decide +kernel) rfl
theorem mw_140 : (Cond.selects "WriteOnceVault$Catalog" yn_C_verdict yn_C_verdict) ∈ gw_T := gw_in 140 (by decide +kernel) rfl
set_option maxRecDepth 20000 in
theorem mw_141 : (Cond.code yn_C_verdict cn_C_verdict 6 (some .int)) ∈ gw_T := gw_in 141 rfl rfl
theorem mw_142 : (Cond.methodLink "WriteOnceVault$Catalog" 39 yn_C_verdictOfKind) ∈ gw_T := gw_in 142 (by decide +kernel) rfl
theorem mw_144 : (Cond.instanceMethod yn_C_verdictOfKind) ∈ gw_T := gw_in 144 (by decide +kernel) rfl
set_option maxRecDepth 20000 in
theorem mw_145 : (Cond.code yn_C_verdictOfKind cn_C_verdictOfKind 5 (some .int)) ∈ gw_T := gw_in 145 rfl rfl
theorem mw_146 : (Cond.methodLink "WriteOnceVault$Catalog" 43 yn_C_putVerdict) ∈ gw_T := gw_in 146 (by decide +kernel) rfl
theorem mw_148 : (Cond.instanceMethod yn_C_putVerdict) ∈ gw_T := gw_in 148 (by decide +kernel) rfl
set_option maxRecDepth 20000 in
theorem mw_149 : (Cond.code yn_C_putVerdict cn_C_putVerdict 3 (some .int)) ∈ gw_T := gw_in 149 rfl rfl
theorem mw_150 : (Cond.methodLink "WriteOnceVault$Catalog" 58 yn_C_isDate) ∈ gw_T := gw_in 150 (by decide +kernel) rfl
theorem mw_151 : (Cond.static yn_C_isDate) ∈ gw_T := gw_in 151 (by decide +kernel) rfl
set_option maxRecDepth 20000 in
theorem mw_152 : (Cond.code yn_C_isDate cn_C_isDate 1 (some .boolean)) ∈ gw_T := gw_in 152 rfl rfl
theorem mw_153 : (Cond.constant "WriteOnceVault$Catalog" 61 (1000000)) ∈ gw_T := gw_in 153 (by decide +kernel) rfl
theorem mw_154 : (Cond.methodLink "WriteOnceVault$Catalog" 47 yn_C_extendVerdict) ∈ gw_T := gw_in 154 (by decide +kernel) rfl
theorem mw_156 : (Cond.instanceMethod yn_C_extendVerdict) ∈ gw_T := gw_in 156 (by decide +kernel) rfl
set_option maxRecDepth 20000 in
theorem mw_157 : (Cond.code yn_C_extendVerdict cn_C_extendVerdict 3 (some .int)) ∈ gw_T := gw_in 157 rfl rfl
theorem mw_158 : (Cond.methodLink "WriteOnceVault$Catalog" 35 yn_C_isThere) ∈ gw_T := gw_in 158 (by decide +kernel) rfl
theorem mw_159 : (Cond.instanceMethod yn_C_isThere) ∈ gw_T := gw_in 159 (by decide +kernel) rfl
theorem mw_160 : (Cond.selects "WriteOnceVault$Catalog" yn_C_isThere yn_C_isThere) ∈ gw_T := gw_in 160 (by decide +kernel) rfl
set_option maxRecDepth 20000 in
theorem mw_161 : (Cond.code yn_C_isThere cn_C_isThere 2 (some .boolean)) ∈ gw_T := gw_in 161 rfl rfl
theorem mw_162 : (Cond.methodLink "WriteOnceVault$Catalog" 50 yn_C_holdVerdict) ∈ gw_T := gw_in 162 (by decide +kernel) rfl
theorem mw_164 : (Cond.instanceMethod yn_C_holdVerdict) ∈ gw_T := gw_in 164 (by decide +kernel) rfl
set_option maxRecDepth 20000 in
theorem mw_165 : (Cond.code yn_C_holdVerdict cn_C_holdVerdict 5 (some .int)) ∈ gw_T := gw_in 165 rfl rfl
theorem mw_166 : (Cond.methodLink "WriteOnceVault$Catalog" 31 yn_C_stateOf) ∈ gw_T := gw_in 166 (by decide +kernel) rfl
theorem mw_167 : (Cond.instanceMethod yn_C_stateOf) ∈ gw_T := gw_in 167 (by decide +kernel) rfl
theorem mw_168 : (Cond.selects "WriteOnceVault$Catalog" yn_C_stateOf yn_C_stateOf) ∈ gw_T := gw_in 168 (by decide +kernel) rfl
set_option maxRecDepth 20000 in
theorem mw_169 : (Cond.code yn_C_stateOf cn_C_stateOf 2 (some .int)) ∈ gw_T := gw_in 169 rfl rfl
theorem mw_170 : (Cond.methodLink "WriteOnceVault$Catalog" 54 yn_C_endVerdict) ∈ gw_T := gw_in 170 (by decide +kernel) rfl
theorem mw_172 : (Cond.instanceMethod yn_C_endVerdict) ∈ gw_T := gw_in 172 (by decide +kernel) rfl
set_option maxRecDepth 20000 in
theorem mw_173 : (Cond.code yn_C_endVerdict cn_C_endVerdict 4 (some .int)) ∈ gw_T := gw_in 173 rfl rfl
theorem mw_174 : (Cond.methodLink "WriteOnceVault" 63 yn_H_pad) ∈ gw_T := gw_in 174 (by decide +kernel) rfl
theorem mw_175 : (Cond.static yn_H_pad) ∈ gw_T := gw_in 175 (by decide +kernel) rfl
set_option maxRecDepth 20000 in
theorem mw_176 : (Cond.code yn_H_pad cn_H_pad 3 (some .int)) ∈ gw_T := gw_in 176 rfl rfl
theorem mw_177 : (Cond.methodLink "WriteOnceVault$Digests" 14 yn_H_mix) ∈ gw_T := gw_in 177 (by decide +kernel) rfl
theorem mw_178 : (Cond.static yn_H_mix) ∈ gw_T := gw_in 178 (by decide +kernel) rfl
set_option maxRecDepth 20000 in
theorem mw_179 : (Cond.code yn_H_mix cn_H_mix 3 (some .int)) ∈ gw_T := gw_in 179 rfl rfl
theorem mw_180 : (Cond.methodLink "WriteOnceVault$Digests" 7 yn_J_rotateLeft) ∈ gw_T := gw_in 180 (by decide +kernel) rfl
theorem mw_181 : (Cond.static yn_J_rotateLeft) ∈ gw_T := gw_in 181 (by decide +kernel) rfl
set_option maxRecDepth 20000 in
theorem mw_182 : (Cond.code yn_J_rotateLeft cn_J_rotateLeft 2 (some .int)) ∈ gw_T := gw_in 182 rfl rfl
theorem mw_183 : (Cond.constant "WriteOnceVault$Digests" 13 (48271001)) ∈ gw_T := gw_in 183 (by decide +kernel) rfl
theorem mw_184 : (Cond.methodLink "WriteOnceVault" 68 yn_X_draftRecord) ∈ gw_T := gw_in 184 (by decide +kernel) rfl
theorem mw_186 : (Cond.instanceMethod yn_X_draftRecord) ∈ gw_T := gw_in 186 (by decide +kernel) rfl
set_option maxRecDepth 20000 in
theorem mw_187 : (Cond.code yn_X_draftRecord cn_X_draftRecord 6 none) ∈ gw_T := gw_in 187 rfl rfl
theorem mw_188 : (Cond.methodLink "WriteOnceVault" 167 yn_H_leafAt) ∈ gw_T := gw_in 188 (by decide +kernel) rfl
theorem mw_189 : (Cond.static yn_H_leafAt) ∈ gw_T := gw_in 189 (by decide +kernel) rfl
set_option maxRecDepth 20000 in
theorem mw_190 : (Cond.code yn_H_leafAt cn_H_leafAt 4 (some .int)) ∈ gw_T := gw_in 190 rfl rfl
theorem mw_191 : (Cond.methodLink "WriteOnceVault" 72 yn_G_keyPlace) ∈ gw_T := gw_in 191 (by decide +kernel) rfl
theorem mw_192 : (Cond.static yn_G_keyPlace) ∈ gw_T := gw_in 192 (by decide +kernel) rfl
set_option maxRecDepth 20000 in
theorem mw_193 : (Cond.code yn_G_keyPlace cn_G_keyPlace 1 (some .int)) ∈ gw_T := gw_in 193 rfl rfl
theorem mw_194 : (Cond.methodLink "WriteOnceVault" 76 yn_X_writeWord) ∈ gw_T := gw_in 194 (by decide +kernel) rfl
theorem mw_196 : (Cond.instanceMethod yn_X_writeWord) ∈ gw_T := gw_in 196 (by decide +kernel) rfl
set_option maxRecDepth 20000 in
theorem mw_197 : (Cond.code yn_X_writeWord cn_X_writeWord 3 (some .boolean)) ∈ gw_T := gw_in 197 rfl rfl
theorem mw_198 : (Cond.methodLink "WriteOnceVault" 153 yn_G_store) ∈ gw_T := gw_in 198 (by decide +kernel) rfl
theorem mw_199 : (Cond.instanceMethod yn_G_store) ∈ gw_T := gw_in 199 (by decide +kernel) rfl
theorem mw_200 : (Cond.selects "WriteOnceVault$Image" yn_G_store yn_G_store) ∈ gw_T := gw_in 200 (by decide +kernel) rfl
set_option maxRecDepth 20000 in
theorem mw_201 : (Cond.code yn_G_store cn_G_store 3 none) ∈ gw_T := gw_in 201 rfl rfl
theorem mw_202 : (Cond.methodLink "WriteOnceVault$Image" 18 yn_G_hasPlace) ∈ gw_T := gw_in 202 (by decide +kernel) rfl
theorem mw_203 : (Cond.static yn_G_hasPlace) ∈ gw_T := gw_in 203 (by decide +kernel) rfl
set_option maxRecDepth 20000 in
theorem mw_204 : (Cond.code yn_G_hasPlace cn_G_hasPlace 1 (some .boolean)) ∈ gw_T := gw_in 204 rfl rfl
theorem mw_205 : (Cond.methodLink "WriteOnceVault" 80 yn_X_writeDraft) ∈ gw_T := gw_in 205 (by decide +kernel) rfl
theorem mw_207 : (Cond.instanceMethod yn_X_writeDraft) ∈ gw_T := gw_in 207 (by decide +kernel) rfl
set_option maxRecDepth 20000 in
theorem mw_208 : (Cond.code yn_X_writeDraft cn_X_writeDraft 3 (some .boolean)) ∈ gw_T := gw_in 208 rfl rfl
theorem mw_209 : (Cond.methodLink "WriteOnceVault" 119 yn_C_recordCount) ∈ gw_T := gw_in 209 (by decide +kernel) rfl
theorem mw_210 : (Cond.instanceMethod yn_C_recordCount) ∈ gw_T := gw_in 210 (by decide +kernel) rfl
theorem mw_211 : (Cond.selects "WriteOnceVault$Catalog" yn_C_recordCount yn_C_recordCount) ∈ gw_T := gw_in 211 (by decide +kernel) rfl
set_option maxRecDepth 20000 in
theorem mw_212 : (Cond.code yn_C_recordCount cn_C_recordCount 1 (some .int)) ∈ gw_T := gw_in 212 rfl rfl
theorem mw_213 : (Cond.methodLink "WriteOnceVault" 171 yn_G_recordPlace) ∈ gw_T := gw_in 213 (by decide +kernel) rfl
theorem mw_214 : (Cond.static yn_G_recordPlace) ∈ gw_T := gw_in 214 (by decide +kernel) rfl
set_option maxRecDepth 20000 in
theorem mw_215 : (Cond.code yn_G_recordPlace cn_G_recordPlace 1 (some .int)) ∈ gw_T := gw_in 215 rfl rfl
theorem mw_216 : (Cond.methodLink "WriteOnceVault" 84 yn_C_enter) ∈ gw_T := gw_in 216 (by decide +kernel) rfl
theorem mw_217 : (Cond.instanceMethod yn_C_enter) ∈ gw_T := gw_in 217 (by decide +kernel) rfl
theorem mw_218 : (Cond.selects "WriteOnceVault$Catalog" yn_C_enter yn_C_enter) ∈ gw_T := gw_in 218 (by decide +kernel) rfl
set_option maxRecDepth 20000 in
theorem mw_219 : (Cond.code yn_C_enter cn_C_enter 4 none) ∈ gw_T := gw_in 219 rfl rfl
theorem mw_220 : (Cond.methodLink "WriteOnceVault$Catalog" 62 yn_C_addObject) ∈ gw_T := gw_in 220 (by decide +kernel) rfl
theorem mw_222 : (Cond.instanceMethod yn_C_addObject) ∈ gw_T := gw_in 222 (by decide +kernel) rfl
set_option maxRecDepth 20000 in
theorem mw_223 : (Cond.code yn_C_addObject cn_C_addObject 2 none) ∈ gw_T := gw_in 223 rfl rfl
theorem mw_224 : (Cond.methodLink "WriteOnceVault$Catalog" 66 yn_C_changeObject) ∈ gw_T := gw_in 224 (by decide +kernel) rfl
theorem mw_226 : (Cond.instanceMethod yn_C_changeObject) ∈ gw_T := gw_in 226 (by decide +kernel) rfl
set_option maxRecDepth 20000 in
theorem mw_227 : (Cond.code yn_C_changeObject cn_C_changeObject 4 none) ∈ gw_T := gw_in 227 rfl rfl
theorem mw_228 : (Cond.methodLink "WriteOnceVaultLaw" 18 yn_X_extend) ∈ gw_T := gw_in 228 (by decide +kernel) rfl
theorem mw_229 : (Cond.instanceMethod yn_X_extend) ∈ gw_T := gw_in 229 (by decide +kernel) rfl
theorem mw_230 : (Cond.selects "WriteOnceVault" yn_X_extend yn_X_extend) ∈ gw_T := gw_in 230 (by decide +kernel) rfl
set_option maxRecDepth 20000 in
theorem mw_231 : (Cond.code yn_X_extend cn_X_extend 3 (some .int)) ∈ gw_T := gw_in 231 rfl rfl
theorem mw_232 : (Cond.methodLink "WriteOnceVault" 88 yn_X_change) ∈ gw_T := gw_in 232 (by decide +kernel) rfl
theorem mw_234 : (Cond.instanceMethod yn_X_change) ∈ gw_T := gw_in 234 (by decide +kernel) rfl
set_option maxRecDepth 20000 in
theorem mw_235 : (Cond.code yn_X_change cn_X_change 6 (some .int)) ∈ gw_T := gw_in 235 rfl rfl
theorem mw_236 : (Cond.methodLink "WriteOnceVaultLaw" 23 yn_X_hold) ∈ gw_T := gw_in 236 (by decide +kernel) rfl
theorem mw_237 : (Cond.instanceMethod yn_X_hold) ∈ gw_T := gw_in 237 (by decide +kernel) rfl
theorem mw_238 : (Cond.selects "WriteOnceVault" yn_X_hold yn_X_hold) ∈ gw_T := gw_in 238 (by decide +kernel) rfl
set_option maxRecDepth 20000 in
theorem mw_239 : (Cond.code yn_X_hold cn_X_hold 4 (some .int)) ∈ gw_T := gw_in 239 rfl rfl
theorem mw_240 : (Cond.methodLink "WriteOnceVaultLaw" 28 yn_X_delete) ∈ gw_T := gw_in 240 (by decide +kernel) rfl
theorem mw_241 : (Cond.instanceMethod yn_X_delete) ∈ gw_T := gw_in 241 (by decide +kernel) rfl
theorem mw_242 : (Cond.selects "WriteOnceVault" yn_X_delete yn_X_delete) ∈ gw_T := gw_in 242 (by decide +kernel) rfl
set_option maxRecDepth 20000 in
theorem mw_243 : (Cond.code yn_X_delete cn_X_delete 2 (some .int)) ∈ gw_T := gw_in 243 rfl rfl
theorem mw_244 : (Cond.methodLink "WriteOnceVaultLaw" 33 yn_X_shred) ∈ gw_T := gw_in 244 (by decide +kernel) rfl
theorem mw_245 : (Cond.instanceMethod yn_X_shred) ∈ gw_T := gw_in 245 (by decide +kernel) rfl
theorem mw_246 : (Cond.selects "WriteOnceVault" yn_X_shred yn_X_shred) ∈ gw_T := gw_in 246 (by decide +kernel) rfl
set_option maxRecDepth 20000 in
theorem mw_247 : (Cond.code yn_X_shred cn_X_shred 2 (some .int)) ∈ gw_T := gw_in 247 rfl rfl
theorem mw_248 : (Cond.methodLink "WriteOnceVaultLaw" 37 yn_X_tick) ∈ gw_T := gw_in 248 (by decide +kernel) rfl
theorem mw_249 : (Cond.instanceMethod yn_X_tick) ∈ gw_T := gw_in 249 (by decide +kernel) rfl
theorem mw_250 : (Cond.selects "WriteOnceVault" yn_X_tick yn_X_tick) ∈ gw_T := gw_in 250 (by decide +kernel) rfl
set_option maxRecDepth 20000 in
theorem mw_251 : (Cond.code yn_X_tick cn_X_tick 2 (some .int)) ∈ gw_T := gw_in 251 rfl rfl
theorem mw_252 : (Cond.methodLink "WriteOnceVaultLaw" 41 yn_X_get) ∈ gw_T := gw_in 252 (by decide +kernel) rfl
theorem mw_253 : (Cond.instanceMethod yn_X_get) ∈ gw_T := gw_in 253 (by decide +kernel) rfl
theorem mw_254 : (Cond.selects "WriteOnceVault" yn_X_get yn_X_get) ∈ gw_T := gw_in 254 (by decide +kernel) rfl
set_option maxRecDepth 20000 in
theorem mw_255 : (Cond.code yn_X_get cn_X_get 5 (some .long)) ∈ gw_T := gw_in 255 rfl rfl
theorem mw_256 : (Cond.methodLink "WriteOnceVault" 91 yn_C_isLive) ∈ gw_T := gw_in 256 (by decide +kernel) rfl
theorem mw_257 : (Cond.instanceMethod yn_C_isLive) ∈ gw_T := gw_in 257 (by decide +kernel) rfl
theorem mw_258 : (Cond.selects "WriteOnceVault$Catalog" yn_C_isLive yn_C_isLive) ∈ gw_T := gw_in 258 (by decide +kernel) rfl
set_option maxRecDepth 20000 in
theorem mw_259 : (Cond.code yn_C_isLive cn_C_isLive 2 (some .boolean)) ∈ gw_T := gw_in 259 rfl rfl
theorem mw_260 : (Cond.constantLong "WriteOnceVault" 95 (1099511627776)) ∈ gw_T := gw_in 260 (by decide +kernel) rfl
theorem mw_261 : (Cond.methodLink "WriteOnceVault" 97 yn_C_putRecordOf) ∈ gw_T := gw_in 261 (by decide +kernel) rfl
theorem mw_262 : (Cond.instanceMethod yn_C_putRecordOf) ∈ gw_T := gw_in 262 (by decide +kernel) rfl
theorem mw_263 : (Cond.selects "WriteOnceVault$Catalog" yn_C_putRecordOf yn_C_putRecordOf) ∈ gw_T := gw_in 263 (by decide +kernel) rfl
set_option maxRecDepth 20000 in
theorem mw_264 : (Cond.code yn_C_putRecordOf cn_C_putRecordOf 2 (some .int)) ∈ gw_T := gw_in 264 rfl rfl
theorem mw_265 : (Cond.methodLink "WriteOnceVault" 100 yn_G_field) ∈ gw_T := gw_in 265 (by decide +kernel) rfl
theorem mw_266 : (Cond.instanceMethod yn_G_field) ∈ gw_T := gw_in 266 (by decide +kernel) rfl
theorem mw_267 : (Cond.selects "WriteOnceVault$Image" yn_G_field yn_G_field) ∈ gw_T := gw_in 267 (by decide +kernel) rfl
set_option maxRecDepth 20000 in
theorem mw_268 : (Cond.code yn_G_field cn_G_field 3 (some .int)) ∈ gw_T := gw_in 268 rfl rfl
theorem mw_269 : (Cond.methodLink "WriteOnceVault$Image" 22 yn_G_recordPlace) ∈ gw_T := gw_in 269 (by decide +kernel) rfl
theorem mw_270 : (Cond.methodLink "WriteOnceVault$Image" 26 yn_G_read) ∈ gw_T := gw_in 270 (by decide +kernel) rfl
theorem mw_271 : (Cond.instanceMethod yn_G_read) ∈ gw_T := gw_in 271 (by decide +kernel) rfl
theorem mw_272 : (Cond.selects "WriteOnceVault$Image" yn_G_read yn_G_read) ∈ gw_T := gw_in 272 (by decide +kernel) rfl
set_option maxRecDepth 20000 in
theorem mw_273 : (Cond.code yn_G_read cn_G_read 2 (some .int)) ∈ gw_T := gw_in 273 rfl rfl
theorem mw_274 : (Cond.methodLink "WriteOnceVault" 104 yn_G_read) ∈ gw_T := gw_in 274 (by decide +kernel) rfl
theorem mw_275 : (Cond.methodLink "WriteOnceVaultLaw" 46 yn_X_look) ∈ gw_T := gw_in 275 (by decide +kernel) rfl
theorem mw_276 : (Cond.instanceMethod yn_X_look) ∈ gw_T := gw_in 276 (by decide +kernel) rfl
theorem mw_277 : (Cond.selects "WriteOnceVault" yn_X_look yn_X_look) ∈ gw_T := gw_in 277 (by decide +kernel) rfl
set_option maxRecDepth 20000 in
theorem mw_278 : (Cond.code yn_X_look cn_X_look 3 (some .int)) ∈ gw_T := gw_in 278 rfl rfl
theorem mw_279 : (Cond.methodLink "WriteOnceVault" 107 yn_C_isThere) ∈ gw_T := gw_in 279 (by decide +kernel) rfl
theorem mw_280 : (Cond.methodLink "WriteOnceVault" 110 yn_C_stateOf) ∈ gw_T := gw_in 280 (by decide +kernel) rfl
theorem mw_281 : (Cond.methodLink "WriteOnceVault" 113 yn_C_dateOf) ∈ gw_T := gw_in 281 (by decide +kernel) rfl
theorem mw_282 : (Cond.instanceMethod yn_C_dateOf) ∈ gw_T := gw_in 282 (by decide +kernel) rfl
theorem mw_283 : (Cond.selects "WriteOnceVault$Catalog" yn_C_dateOf yn_C_dateOf) ∈ gw_T := gw_in 283 (by decide +kernel) rfl
set_option maxRecDepth 20000 in
theorem mw_284 : (Cond.code yn_C_dateOf cn_C_dateOf 2 (some .int)) ∈ gw_T := gw_in 284 rfl rfl
theorem mw_285 : (Cond.methodLink "WriteOnceVault" 116 yn_C_holdsOf) ∈ gw_T := gw_in 285 (by decide +kernel) rfl
theorem mw_286 : (Cond.instanceMethod yn_C_holdsOf) ∈ gw_T := gw_in 286 (by decide +kernel) rfl
theorem mw_287 : (Cond.selects "WriteOnceVault$Catalog" yn_C_holdsOf yn_C_holdsOf) ∈ gw_T := gw_in 287 (by decide +kernel) rfl
set_option maxRecDepth 20000 in
theorem mw_288 : (Cond.code yn_C_holdsOf cn_C_holdsOf 2 (some .int)) ∈ gw_T := gw_in 288 rfl rfl
theorem mw_289 : (Cond.methodLink "WriteOnceVaultLaw" 50 yn_X_records) ∈ gw_T := gw_in 289 (by decide +kernel) rfl
theorem mw_290 : (Cond.instanceMethod yn_X_records) ∈ gw_T := gw_in 290 (by decide +kernel) rfl
theorem mw_291 : (Cond.selects "WriteOnceVault" yn_X_records yn_X_records) ∈ gw_T := gw_in 291 (by decide +kernel) rfl
set_option maxRecDepth 20000 in
theorem mw_292 : (Cond.code yn_X_records cn_X_records 1 (some .int)) ∈ gw_T := gw_in 292 rfl rfl
theorem mw_293 : (Cond.methodLink "WriteOnceVaultLaw" 55 yn_X_root) ∈ gw_T := gw_in 293 (by decide +kernel) rfl
theorem mw_294 : (Cond.instanceMethod yn_X_root) ∈ gw_T := gw_in 294 (by decide +kernel) rfl
theorem mw_295 : (Cond.selects "WriteOnceVault" yn_X_root yn_X_root) ∈ gw_T := gw_in 295 (by decide +kernel) rfl
set_option maxRecDepth 20000 in
theorem mw_296 : (Cond.code yn_X_root cn_X_root 2 (some .long)) ∈ gw_T := gw_in 296 rfl rfl
theorem mw_297 : (Cond.methodLink "WriteOnceVault" 122 yn_G_rootOf) ∈ gw_T := gw_in 297 (by decide +kernel) rfl
theorem mw_298 : (Cond.instanceMethod yn_G_rootOf) ∈ gw_T := gw_in 298 (by decide +kernel) rfl
theorem mw_299 : (Cond.selects "WriteOnceVault$Image" yn_G_rootOf yn_G_rootOf) ∈ gw_T := gw_in 299 (by decide +kernel) rfl
set_option maxRecDepth 20000 in
theorem mw_300 : (Cond.code yn_G_rootOf cn_G_rootOf 2 (some .int)) ∈ gw_T := gw_in 300 rfl rfl
theorem mw_301 : (Cond.methodLink "WriteOnceVault$Image" 40 yn_G_tree) ∈ gw_T := gw_in 301 (by decide +kernel) rfl
theorem mw_302 : (Cond.instanceMethod yn_G_tree) ∈ gw_T := gw_in 302 (by decide +kernel) rfl
theorem mw_303 : (Cond.selects "WriteOnceVault$Image" yn_G_tree yn_G_tree) ∈ gw_T := gw_in 303 (by decide +kernel) rfl
set_option maxRecDepth 20000 in
theorem mw_304 : (Cond.code yn_G_tree cn_G_tree 4 (some .int)) ∈ gw_T := gw_in 304 rfl rfl
theorem mw_305 : (Cond.methodLink "WriteOnceVault$Image" 33 yn_G_leaf) ∈ gw_T := gw_in 305 (by decide +kernel) rfl
theorem mw_307 : (Cond.instanceMethod yn_G_leaf) ∈ gw_T := gw_in 307 (by decide +kernel) rfl
set_option maxRecDepth 20000 in
theorem mw_308 : (Cond.code yn_G_leaf cn_G_leaf 2 (some .int)) ∈ gw_T := gw_in 308 rfl rfl
theorem mw_309 : (Cond.methodLink "WriteOnceVault$Image" 52 yn_H_leafAt) ∈ gw_T := gw_in 309 (by decide +kernel) rfl
theorem mw_310 : (Cond.methodLink "WriteOnceVault$Image" 43 yn_G_joinNeighbours) ∈ gw_T := gw_in 310 (by decide +kernel) rfl
theorem mw_312 : (Cond.instanceMethod yn_G_joinNeighbours) ∈ gw_T := gw_in 312 (by decide +kernel) rfl
set_option maxRecDepth 20000 in
theorem mw_313 : (Cond.code yn_G_joinNeighbours cn_G_joinNeighbours 4 none) ∈ gw_T := gw_in 313 rfl rfl
theorem mw_314 : (Cond.methodLink "WriteOnceVault$Image" 47 yn_H_node) ∈ gw_T := gw_in 314 (by decide +kernel) rfl
theorem mw_315 : (Cond.static yn_H_node) ∈ gw_T := gw_in 315 (by decide +kernel) rfl
set_option maxRecDepth 20000 in
theorem mw_316 : (Cond.code yn_H_node cn_H_node 2 (some .int)) ∈ gw_T := gw_in 316 rfl rfl
theorem mw_317 : (Cond.methodLink "WriteOnceVaultLaw" 60 yn_X_path) ∈ gw_T := gw_in 317 (by decide +kernel) rfl
theorem mw_318 : (Cond.instanceMethod yn_X_path) ∈ gw_T := gw_in 318 (by decide +kernel) rfl
theorem mw_319 : (Cond.selects "WriteOnceVault" yn_X_path yn_X_path) ∈ gw_T := gw_in 319 (by decide +kernel) rfl
set_option maxRecDepth 20000 in
theorem mw_320 : (Cond.code yn_X_path cn_X_path 4 (some .long)) ∈ gw_T := gw_in 320 rfl rfl
theorem mw_321 : (Cond.methodLink "WriteOnceVault" 125 yn_E_toLeaf) ∈ gw_T := gw_in 321 (by decide +kernel) rfl
theorem mw_322 : (Cond.instanceMethod yn_E_toLeaf) ∈ gw_T := gw_in 322 (by decide +kernel) rfl
theorem mw_323 : (Cond.selects "WriteOnceVault$Descent" yn_E_toLeaf yn_E_toLeaf) ∈ gw_T := gw_in 323 (by decide +kernel) rfl
set_option maxRecDepth 20000 in
theorem mw_324 : (Cond.code yn_E_toLeaf cn_E_toLeaf 3 none) ∈ gw_T := gw_in 324 rfl rfl
theorem mw_325 : (Cond.methodLink "WriteOnceVault$Descent" 34 yn_E_goDown) ∈ gw_T := gw_in 325 (by decide +kernel) rfl
theorem mw_327 : (Cond.instanceMethod yn_E_goDown) ∈ gw_T := gw_in 327 (by decide +kernel) rfl
set_option maxRecDepth 20000 in
theorem mw_328 : (Cond.code yn_E_goDown cn_E_goDown 6 none) ∈ gw_T := gw_in 328 rfl rfl
theorem mw_329 : (Cond.methodLink "WriteOnceVault$Descent" 38 yn_E_stepTowards) ∈ gw_T := gw_in 329 (by decide +kernel) rfl
theorem mw_331 : (Cond.instanceMethod yn_E_stepTowards) ∈ gw_T := gw_in 331 (by decide +kernel) rfl
set_option maxRecDepth 20000 in
theorem mw_332 : (Cond.code yn_E_stepTowards cn_E_stepTowards 5 none) ∈ gw_T := gw_in 332 rfl rfl
theorem mw_333 : (Cond.methodLink "WriteOnceVault$Descent" 42 yn_J_highestOneBit) ∈ gw_T := gw_in 333 (by decide +kernel) rfl
theorem mw_334 : (Cond.static yn_J_highestOneBit) ∈ gw_T := gw_in 334 (by decide +kernel) rfl
set_option maxRecDepth 20000 in
theorem mw_335 : (Cond.code yn_J_highestOneBit cn_J_highestOneBit 1 (some .int)) ∈ gw_T := gw_in 335 rfl rfl
theorem mw_336 : (Cond.constant "java/lang/Integer" 127 (-2147483648)) ∈ gw_T := gw_in 336 (by decide +kernel) rfl
theorem mw_337 : (Cond.methodLink "java/lang/Integer" 51 yn_J_numberOfLeadingZeros) ∈ gw_T := gw_in 337 (by decide +kernel) rfl
theorem mw_338 : (Cond.static yn_J_numberOfLeadingZeros) ∈ gw_T := gw_in 338 (by decide +kernel) rfl
set_option maxRecDepth 20000 in
theorem mw_339 : (Cond.code yn_J_numberOfLeadingZeros cn_J_numberOfLeadingZeros 2 (some .int)) ∈ gw_T := gw_in 339 rfl rfl
theorem mw_340 : (Cond.constant "java/lang/Integer" 264 (65536)) ∈ gw_T := gw_in 340 (by decide +kernel) rfl
theorem mw_341 : (Cond.methodLink "WriteOnceVault" 129 yn_X_digestOnTheWay) ∈ gw_T := gw_in 341 (by decide +kernel) rfl
theorem mw_343 : (Cond.instanceMethod yn_X_digestOnTheWay) ∈ gw_T := gw_in 343 (by decide +kernel) rfl
set_option maxRecDepth 20000 in
theorem mw_344 : (Cond.code yn_X_digestOnTheWay cn_X_digestOnTheWay 2 (some .long)) ∈ gw_T := gw_in 344 rfl rfl
theorem mw_345 : (Cond.methodLink "WriteOnceVault" 181 yn_E_digestCount) ∈ gw_T := gw_in 345 (by decide +kernel) rfl
theorem mw_346 : (Cond.instanceMethod yn_E_digestCount) ∈ gw_T := gw_in 346 (by decide +kernel) rfl
theorem mw_347 : (Cond.selects "WriteOnceVault$Descent" yn_E_digestCount yn_E_digestCount) ∈ gw_T := gw_in 347 (by decide +kernel) rfl
set_option maxRecDepth 20000 in
theorem mw_348 : (Cond.code yn_E_digestCount cn_E_digestCount 1 (some .int)) ∈ gw_T := gw_in 348 rfl rfl
theorem mw_349 : (Cond.methodLink "WriteOnceVault" 184 yn_E_firstUnder) ∈ gw_T := gw_in 349 (by decide +kernel) rfl
theorem mw_350 : (Cond.instanceMethod yn_E_firstUnder) ∈ gw_T := gw_in 350 (by decide +kernel) rfl
theorem mw_351 : (Cond.selects "WriteOnceVault$Descent" yn_E_firstUnder yn_E_firstUnder) ∈ gw_T := gw_in 351 (by decide +kernel) rfl
set_option maxRecDepth 20000 in
theorem mw_352 : (Cond.code yn_E_firstUnder cn_E_firstUnder 3 (some .int)) ∈ gw_T := gw_in 352 rfl rfl
theorem mw_353 : (Cond.methodLink "WriteOnceVault$Descent" 48 yn_E_stepOf) ∈ gw_T := gw_in 353 (by decide +kernel) rfl
theorem mw_355 : (Cond.instanceMethod yn_E_stepOf) ∈ gw_T := gw_in 355 (by decide +kernel) rfl
set_option maxRecDepth 20000 in
theorem mw_356 : (Cond.code yn_E_stepOf cn_E_stepOf 2 (some .int)) ∈ gw_T := gw_in 356 rfl rfl
theorem mw_357 : (Cond.methodLink "WriteOnceVault$Descent" 51 yn_E_digestCount) ∈ gw_T := gw_in 357 (by decide +kernel) rfl
theorem mw_358 : (Cond.methodLink "WriteOnceVault" 187 yn_E_countUnder) ∈ gw_T := gw_in 358 (by decide +kernel) rfl
theorem mw_359 : (Cond.instanceMethod yn_E_countUnder) ∈ gw_T := gw_in 359 (by decide +kernel) rfl
theorem mw_360 : (Cond.selects "WriteOnceVault$Descent" yn_E_countUnder yn_E_countUnder) ∈ gw_T := gw_in 360 (by decide +kernel) rfl
set_option maxRecDepth 20000 in
theorem mw_361 : (Cond.code yn_E_countUnder cn_E_countUnder 3 (some .int)) ∈ gw_T := gw_in 361 rfl rfl
theorem mw_362 : (Cond.methodLink "WriteOnceVault" 190 yn_G_tree) ∈ gw_T := gw_in 362 (by decide +kernel) rfl
theorem mw_363 : (Cond.methodLink "WriteOnceVaultLaw" 65 yn_X_bridge) ∈ gw_T := gw_in 363 (by decide +kernel) rfl
theorem mw_364 : (Cond.instanceMethod yn_X_bridge) ∈ gw_T := gw_in 364 (by decide +kernel) rfl
theorem mw_365 : (Cond.selects "WriteOnceVault" yn_X_bridge yn_X_bridge) ∈ gw_T := gw_in 365 (by decide +kernel) rfl
set_option maxRecDepth 20000 in
theorem mw_366 : (Cond.code yn_X_bridge cn_X_bridge 4 (some .long)) ∈ gw_T := gw_in 366 rfl rfl
theorem mw_367 : (Cond.methodLink "WriteOnceVault" 133 yn_E_toEdge) ∈ gw_T := gw_in 367 (by decide +kernel) rfl
theorem mw_368 : (Cond.instanceMethod yn_E_toEdge) ∈ gw_T := gw_in 368 (by decide +kernel) rfl
theorem mw_369 : (Cond.selects "WriteOnceVault$Descent" yn_E_toEdge yn_E_toEdge) ∈ gw_T := gw_in 369 (by decide +kernel) rfl
set_option maxRecDepth 20000 in
theorem mw_370 : (Cond.code yn_E_toEdge cn_E_toEdge 3 none) ∈ gw_T := gw_in 370 rfl rfl
theorem mw_371 : (Cond.methodLink "WriteOnceVaultLaw" 69 yn_X_feed) ∈ gw_T := gw_in 371 (by decide +kernel) rfl
theorem mw_372 : (Cond.instanceMethod yn_X_feed) ∈ gw_T := gw_in 372 (by decide +kernel) rfl
theorem mw_373 : (Cond.selects "WriteOnceVault" yn_X_feed yn_X_feed) ∈ gw_T := gw_in 373 (by decide +kernel) rfl
set_option maxRecDepth 20000 in
theorem mw_374 : (Cond.code yn_X_feed cn_X_feed 2 (some .boolean)) ∈ gw_T := gw_in 374 rfl rfl
theorem mw_375 : (Cond.methodLink "WriteOnceVault" 136 yn_F_add) ∈ gw_T := gw_in 375 (by decide +kernel) rfl
theorem mw_376 : (Cond.instanceMethod yn_F_add) ∈ gw_T := gw_in 376 (by decide +kernel) rfl
theorem mw_377 : (Cond.selects "WriteOnceVault$FedWords" yn_F_add yn_F_add) ∈ gw_T := gw_in 377 (by decide +kernel) rfl
set_option maxRecDepth 20000 in
theorem mw_378 : (Cond.code yn_F_add cn_F_add 2 (some .boolean)) ∈ gw_T := gw_in 378 rfl rfl
theorem mw_379 : (Cond.methodLink "WriteOnceVaultLaw" 74 yn_X_included) ∈ gw_T := gw_in 379 (by decide +kernel) rfl
theorem mw_380 : (Cond.instanceMethod yn_X_included) ∈ gw_T := gw_in 380 (by decide +kernel) rfl
theorem mw_381 : (Cond.selects "WriteOnceVault" yn_X_included yn_X_included) ∈ gw_T := gw_in 381 (by decide +kernel) rfl
set_option maxRecDepth 20000 in
theorem mw_382 : (Cond.code yn_X_included cn_X_included 5 (some .boolean)) ∈ gw_T := gw_in 382 rfl rfl
theorem mw_383 : (Cond.methodLink "WriteOnceVault" 139 yn_F_proveLeaf) ∈ gw_T := gw_in 383 (by decide +kernel) rfl
theorem mw_384 : (Cond.instanceMethod yn_F_proveLeaf) ∈ gw_T := gw_in 384 (by decide +kernel) rfl
theorem mw_385 : (Cond.selects "WriteOnceVault$FedWords" yn_F_proveLeaf yn_F_proveLeaf) ∈ gw_T := gw_in 385 (by decide +kernel) rfl
set_option maxRecDepth 20000 in
theorem mw_386 : (Cond.code yn_F_proveLeaf cn_F_proveLeaf 5 (some .boolean)) ∈ gw_T := gw_in 386 rfl rfl
theorem mw_387 : (Cond.methodLink "WriteOnceVault$FedWords" 17 yn_E_digestCount) ∈ gw_T := gw_in 387 (by decide +kernel) rfl
theorem mw_388 : (Cond.methodLink "WriteOnceVault$FedWords" 23 yn_E_wentRightAbove) ∈ gw_T := gw_in 388 (by decide +kernel) rfl
theorem mw_389 : (Cond.instanceMethod yn_E_wentRightAbove) ∈ gw_T := gw_in 389 (by decide +kernel) rfl
theorem mw_390 : (Cond.selects "WriteOnceVault$Descent" yn_E_wentRightAbove yn_E_wentRightAbove) ∈ gw_T := gw_in 390 (by decide +kernel) rfl
set_option maxRecDepth 20000 in
theorem mw_391 : (Cond.code yn_E_wentRightAbove cn_E_wentRightAbove 3 (some .boolean)) ∈ gw_T := gw_in 391 rfl rfl
theorem mw_392 : (Cond.methodLink "WriteOnceVault$FedWords" 27 yn_H_node) ∈ gw_T := gw_in 392 (by decide +kernel) rfl
theorem mw_393 : (Cond.methodLink "WriteOnceVault" 143 yn_F_clear) ∈ gw_T := gw_in 393 (by decide +kernel) rfl
theorem mw_394 : (Cond.instanceMethod yn_F_clear) ∈ gw_T := gw_in 394 (by decide +kernel) rfl
theorem mw_395 : (Cond.selects "WriteOnceVault$FedWords" yn_F_clear yn_F_clear) ∈ gw_T := gw_in 395 (by decide +kernel) rfl
set_option maxRecDepth 20000 in
theorem mw_396 : (Cond.code yn_F_clear cn_F_clear 1 none) ∈ gw_T := gw_in 396 rfl rfl
theorem mw_397 : (Cond.methodLink "WriteOnceVaultLaw" 79 yn_X_extended) ∈ gw_T := gw_in 397 (by decide +kernel) rfl
theorem mw_398 : (Cond.instanceMethod yn_X_extended) ∈ gw_T := gw_in 398 (by decide +kernel) rfl
theorem mw_399 : (Cond.selects "WriteOnceVault" yn_X_extended yn_X_extended) ∈ gw_T := gw_in 399 (by decide +kernel) rfl
set_option maxRecDepth 20000 in
theorem mw_400 : (Cond.code yn_X_extended cn_X_extended 6 (some .boolean)) ∈ gw_T := gw_in 400 rfl rfl
theorem mw_401 : (Cond.methodLink "WriteOnceVault" 146 yn_F_proveGrowth) ∈ gw_T := gw_in 401 (by decide +kernel) rfl
theorem mw_402 : (Cond.instanceMethod yn_F_proveGrowth) ∈ gw_T := gw_in 402 (by decide +kernel) rfl
theorem mw_403 : (Cond.selects "WriteOnceVault$FedWords" yn_F_proveGrowth yn_F_proveGrowth) ∈ gw_T := gw_in 403 (by decide +kernel) rfl
set_option maxRecDepth 20000 in
theorem mw_404 : (Cond.code yn_F_proveGrowth cn_F_proveGrowth 8 (some .boolean)) ∈ gw_T := gw_in 404 rfl rfl
theorem mw_405 : (Cond.methodLink "WriteOnceVault$FedWords" 33 yn_E_showsFoot) ∈ gw_T := gw_in 405 (by decide +kernel) rfl
theorem mw_406 : (Cond.instanceMethod yn_E_showsFoot) ∈ gw_T := gw_in 406 (by decide +kernel) rfl
theorem mw_407 : (Cond.selects "WriteOnceVault$Descent" yn_E_showsFoot yn_E_showsFoot) ∈ gw_T := gw_in 407 (by decide +kernel) rfl
set_option maxRecDepth 20000 in
theorem mw_408 : (Cond.code yn_E_showsFoot cn_E_showsFoot 1 (some .boolean)) ∈ gw_T := gw_in 408 rfl rfl
theorem mw_409 : (Cond.methodLink "WriteOnceVaultLaw" 84 yn_X_word) ∈ gw_T := gw_in 409 (by decide +kernel) rfl
theorem mw_410 : (Cond.instanceMethod yn_X_word) ∈ gw_T := gw_in 410 (by decide +kernel) rfl
theorem mw_411 : (Cond.selects "WriteOnceVault" yn_X_word yn_X_word) ∈ gw_T := gw_in 411 (by decide +kernel) rfl
set_option maxRecDepth 20000 in
theorem mw_412 : (Cond.code yn_X_word cn_X_word 2 (some .long)) ∈ gw_T := gw_in 412 rfl rfl
theorem mw_413 : (Cond.methodLink "WriteOnceVault" 150 yn_G_hasPlace) ∈ gw_T := gw_in 413 (by decide +kernel) rfl
theorem mw_414 : (Cond.methodLink "WriteOnceVaultLaw" 88 yn_X_alter) ∈ gw_T := gw_in 414 (by decide +kernel) rfl
theorem mw_415 : (Cond.instanceMethod yn_X_alter) ∈ gw_T := gw_in 415 (by decide +kernel) rfl
theorem mw_416 : (Cond.selects "WriteOnceVault" yn_X_alter yn_X_alter) ∈ gw_T := gw_in 416 (by decide +kernel) rfl
set_option maxRecDepth 20000 in
theorem mw_417 : (Cond.code yn_X_alter cn_X_alter 3 (some .boolean)) ∈ gw_T := gw_in 417 rfl rfl
theorem mw_418 : (Cond.methodLink "WriteOnceVaultLaw" 93 yn_X_power) ∈ gw_T := gw_in 418 (by decide +kernel) rfl
theorem mw_419 : (Cond.instanceMethod yn_X_power) ∈ gw_T := gw_in 419 (by decide +kernel) rfl
theorem mw_420 : (Cond.selects "WriteOnceVault" yn_X_power yn_X_power) ∈ gw_T := gw_in 420 (by decide +kernel) rfl
set_option maxRecDepth 20000 in
theorem mw_421 : (Cond.code yn_X_power cn_X_power 2 (some .int)) ∈ gw_T := gw_in 421 rfl rfl
theorem mw_422 : (Cond.methodLink "WriteOnceVault" 156 yn_C_replay) ∈ gw_T := gw_in 422 (by decide +kernel) rfl
theorem mw_423 : (Cond.instanceMethod yn_C_replay) ∈ gw_T := gw_in 423 (by decide +kernel) rfl
theorem mw_424 : (Cond.selects "WriteOnceVault$Catalog" yn_C_replay yn_C_replay) ∈ gw_T := gw_in 424 (by decide +kernel) rfl
set_option maxRecDepth 20000 in
theorem mw_425 : (Cond.code yn_C_replay cn_C_replay 4 none) ∈ gw_T := gw_in 425 rfl rfl
theorem mw_426 : (Cond.methodLink "WriteOnceVault$Catalog" 70 yn_C_isSoundNext) ∈ gw_T := gw_in 426 (by decide +kernel) rfl
theorem mw_428 : (Cond.instanceMethod yn_C_isSoundNext) ∈ gw_T := gw_in 428 (by decide +kernel) rfl
set_option maxRecDepth 20000 in
theorem mw_429 : (Cond.code yn_C_isSoundNext cn_C_isSoundNext 4 (some .boolean)) ∈ gw_T := gw_in 429 rfl rfl
theorem mw_430 : (Cond.methodLink "WriteOnceVault$Catalog" 82 yn_G_checkIsRight) ∈ gw_T := gw_in 430 (by decide +kernel) rfl
theorem mw_431 : (Cond.instanceMethod yn_G_checkIsRight) ∈ gw_T := gw_in 431 (by decide +kernel) rfl
theorem mw_432 : (Cond.selects "WriteOnceVault$Image" yn_G_checkIsRight yn_G_checkIsRight) ∈ gw_T := gw_in 432 (by decide +kernel) rfl
set_option maxRecDepth 20000 in
theorem mw_433 : (Cond.code yn_G_checkIsRight cn_G_checkIsRight 2 (some .boolean)) ∈ gw_T := gw_in 433 rfl rfl
theorem mw_434 : (Cond.methodLink "WriteOnceVault$Image" 29 yn_G_field) ∈ gw_T := gw_in 434 (by decide +kernel) rfl
theorem mw_435 : (Cond.methodLink "WriteOnceVault$Catalog" 85 yn_C_isTimely) ∈ gw_T := gw_in 435 (by decide +kernel) rfl
theorem mw_436 : (Cond.static yn_C_isTimely) ∈ gw_T := gw_in 436 (by decide +kernel) rfl
set_option maxRecDepth 20000 in
theorem mw_437 : (Cond.code yn_C_isTimely cn_C_isTimely 5 (some .boolean)) ∈ gw_T := gw_in 437 rfl rfl
theorem mw_438 : (Cond.methodLink "WriteOnceVault$Catalog" 76 yn_G_field) ∈ gw_T := gw_in 438 (by decide +kernel) rfl
theorem mw_439 : (Cond.methodLink "WriteOnceVault$Catalog" 88 yn_C_isWellFormed) ∈ gw_T := gw_in 439 (by decide +kernel) rfl
theorem mw_441 : (Cond.instanceMethod yn_C_isWellFormed) ∈ gw_T := gw_in 441 (by decide +kernel) rfl
set_option maxRecDepth 20000 in
theorem mw_442 : (Cond.code yn_C_isWellFormed cn_C_isWellFormed 5 (some .boolean)) ∈ gw_T := gw_in 442 rfl rfl
theorem mw_443 : (Cond.methodLink "WriteOnceVault$Catalog" 95 yn_C_nextId) ∈ gw_T := gw_in 443 (by decide +kernel) rfl
theorem mw_444 : (Cond.methodLink "WriteOnceVault$Catalog" 92 yn_C_verdict) ∈ gw_T := gw_in 444 (by decide +kernel) rfl
theorem mw_445 : (Cond.methodLink "WriteOnceVault$Catalog" 79 yn_C_enter) ∈ gw_T := gw_in 445 (by decide +kernel) rfl
theorem mw_446 : (Cond.methodLink "WriteOnceVault" 160 yn_X_wipeWhatIsNotSound) ∈ gw_T := gw_in 446 (by decide +kernel) rfl
theorem mw_448 : (Cond.instanceMethod yn_X_wipeWhatIsNotSound) ∈ gw_T := gw_in 448 (by decide +kernel) rfl
set_option maxRecDepth 20000 in
theorem mw_449 : (Cond.code yn_X_wipeWhatIsNotSound cn_X_wipeWhatIsNotSound 2 none) ∈ gw_T := gw_in 449 rfl rfl
theorem mw_450 : (Cond.methodLink "WriteOnceVault" 174 yn_G_wipeRecordsFrom) ∈ gw_T := gw_in 450 (by decide +kernel) rfl
theorem mw_451 : (Cond.instanceMethod yn_G_wipeRecordsFrom) ∈ gw_T := gw_in 451 (by decide +kernel) rfl
theorem mw_452 : (Cond.selects "WriteOnceVault$Image" yn_G_wipeRecordsFrom yn_G_wipeRecordsFrom) ∈ gw_T := gw_in 452 (by decide +kernel) rfl
set_option maxRecDepth 20000 in
theorem mw_453 : (Cond.code yn_G_wipeRecordsFrom cn_G_wipeRecordsFrom 4 none) ∈ gw_T := gw_in 453 rfl rfl
theorem mw_454 : (Cond.methodLink "WriteOnceVault$Image" 36 yn_G_store) ∈ gw_T := gw_in 454 (by decide +kernel) rfl
theorem mw_455 : (Cond.methodLink "WriteOnceVault" 178 yn_C_mayKeepKey) ∈ gw_T := gw_in 455 (by decide +kernel) rfl
theorem mw_456 : (Cond.instanceMethod yn_C_mayKeepKey) ∈ gw_T := gw_in 456 (by decide +kernel) rfl
theorem mw_457 : (Cond.selects "WriteOnceVault$Catalog" yn_C_mayKeepKey yn_C_mayKeepKey) ∈ gw_T := gw_in 457 (by decide +kernel) rfl
set_option maxRecDepth 20000 in
theorem mw_458 : (Cond.code yn_C_mayKeepKey cn_C_mayKeepKey 2 (some .boolean)) ∈ gw_T := gw_in 458 rfl rfl
theorem mw_459 : (Cond.methodLink "WriteOnceVaultLaw" 98 yn_X_cut) ∈ gw_T := gw_in 459 (by decide +kernel) rfl
theorem mw_460 : (Cond.instanceMethod yn_X_cut) ∈ gw_T := gw_in 460 (by decide +kernel) rfl
theorem mw_461 : (Cond.selects "WriteOnceVault" yn_X_cut yn_X_cut) ∈ gw_T := gw_in 461 (by decide +kernel) rfl
set_option maxRecDepth 20000 in
theorem mw_462 : (Cond.code yn_X_cut cn_X_cut 2 (some .boolean)) ∈ gw_T := gw_in 462 rfl rfl
theorem mw_463 : (Cond.methodLink "WriteOnceVaultLaw" 102 yn_X_audit) ∈ gw_T := gw_in 463 (by decide +kernel) rfl
theorem mw_464 : (Cond.instanceMethod yn_X_audit) ∈ gw_T := gw_in 464 (by decide +kernel) rfl
theorem mw_465 : (Cond.selects "WriteOnceVault" yn_X_audit yn_X_audit) ∈ gw_T := gw_in 465 (by decide +kernel) rfl
set_option maxRecDepth 20000 in
theorem mw_466 : (Cond.code yn_X_audit cn_X_audit 5 (some .int)) ∈ gw_T := gw_in 466 rfl rfl
theorem mw_467 : (Cond.classLink "WriteOnceVaultLaw" 10 "WriteOnceVaultModel") ∈ gw_T := gw_in 467 (by decide +kernel) rfl
theorem mw_468 : (Cond.instantiable "WriteOnceVaultModel" 19) ∈ gw_T := gw_in 468 (by decide +kernel) rfl
theorem mw_469 : (Cond.methodLink "WriteOnceVaultLaw" 12 yn_M_init) ∈ gw_T := gw_in 469 (by decide +kernel) rfl
theorem mw_470 : (Cond.instanceMethod yn_M_init) ∈ gw_T := gw_in 470 (by decide +kernel) rfl
set_option maxRecDepth 20000 in
theorem mw_471 : (Cond.code yn_M_init cn_M_init 1 none) ∈ gw_T := gw_in 471 rfl rfl
theorem mw_472 : (Cond.methodLink "WriteOnceVaultModel" 1 yn_O_init) ∈ gw_T := gw_in 472 (by decide +kernel) rfl
theorem mw_473 : (Cond.fieldLink "WriteOnceVaultModel" 7 "WriteOnceVaultModel" "image" "[I") ∈ gw_T := gw_in 473 (by decide +kernel) rfl
theorem mw_474 : (Cond.fieldLink "WriteOnceVaultModel" 86 "WriteOnceVaultModel" "clock" "I") ∈ gw_T := gw_in 474 (by decide +kernel) rfl
theorem mw_475 : (Cond.fieldLink "WriteOnceVaultModel" 38 "WriteOnceVaultModel" "on" "Z") ∈ gw_T := gw_in 475 (by decide +kernel) rfl
theorem mw_476 : (Cond.fieldLink "WriteOnceVaultModel" 42 "WriteOnceVaultModel" "left" "I") ∈ gw_T := gw_in 476 (by decide +kernel) rfl
theorem mw_477 : (Cond.fieldLink "WriteOnceVaultModel" 13 "WriteOnceVaultModel" "fed" "[I") ∈ gw_T := gw_in 477 (by decide +kernel) rfl
theorem mw_478 : (Cond.fieldLink "WriteOnceVaultModel" 132 "WriteOnceVaultModel" "feeds" "I") ∈ gw_T := gw_in 478 (by decide +kernel) rfl
theorem mw_479 : (Cond.fieldLink "WriteOnceVaultModel" 93 "WriteOnceVaultModel" "sound" "I") ∈ gw_T := gw_in 479 (by decide +kernel) rfl
theorem mw_480 : (Cond.fieldLink "WriteOnceVaultModel" 83 "WriteOnceVaultModel" "objects" "I") ∈ gw_T := gw_in 480 (by decide +kernel) rfl
theorem mw_481 : (Cond.fieldLink "WriteOnceVaultModel" 16 "WriteOnceVaultModel" "state" "[I") ∈ gw_T := gw_in 481 (by decide +kernel) rfl
theorem mw_482 : (Cond.fieldLink "WriteOnceVaultModel" 19 "WriteOnceVaultModel" "date" "[I") ∈ gw_T := gw_in 482 (by decide +kernel) rfl
theorem mw_483 : (Cond.fieldLink "WriteOnceVaultModel" 22 "WriteOnceVaultModel" "holds" "[I") ∈ gw_T := gw_in 483 (by decide +kernel) rfl
theorem mw_484 : (Cond.fieldLink "WriteOnceVaultModel" 58 "WriteOnceVaultModel" "steps" "I") ∈ gw_T := gw_in 484 (by decide +kernel) rfl
theorem mw_485 : (Cond.fieldLink "WriteOnceVaultModel" 25 "WriteOnceVaultModel" "otherFrom" "[I") ∈ gw_T := gw_in 485 (by decide +kernel) rfl
theorem mw_486 : (Cond.fieldLink "WriteOnceVaultModel" 28 "WriteOnceVaultModel" "otherCount" "[I") ∈ gw_T := gw_in 486 (by decide +kernel) rfl
theorem mw_487 : (Cond.fieldLink "WriteOnceVaultModel" 31 "WriteOnceVaultModel" "right" "[Z") ∈ gw_T := gw_in 487 (by decide +kernel) rfl
theorem mw_488 : (Cond.fieldLink "WriteOnceVaultModel" 68 "WriteOnceVaultModel" "endFrom" "I") ∈ gw_T := gw_in 488 (by decide +kernel) rfl
theorem mw_489 : (Cond.fieldLink "WriteOnceVaultModel" 71 "WriteOnceVaultModel" "endCount" "I") ∈ gw_T := gw_in 489 (by decide +kernel) rfl
theorem mw_490 : (Cond.fieldLink "WriteOnceVaultModel" 74 "WriteOnceVaultModel" "full" "Z") ∈ gw_T := gw_in 490 (by decide +kernel) rfl
theorem mw_491 : (Cond.fieldLink "WriteOnceVaultModel" 35 "WriteOnceVaultModel" "level" "[I") ∈ gw_T := gw_in 491 (by decide +kernel) rfl
theorem mw_492 : (Cond.lays "WriteOnceVaultModel" "WriteOnceVaultModel" "image" "[I") ∈ gw_T := gw_in 492 (by decide +kernel) rfl
theorem mw_494 : (Cond.lays "WriteOnceVaultModel" "WriteOnceVaultModel" "clock" "I") ∈ gw_T := gw_in 494 (by decide +kernel) rfl
theorem mw_496 : (Cond.lays "WriteOnceVaultModel" "WriteOnceVaultModel" "on" "Z") ∈ gw_T := gw_in 496 (by decide +kernel) rfl
theorem mw_498 : (Cond.lays "WriteOnceVaultModel" "WriteOnceVaultModel" "left" "I") ∈ gw_T := gw_in 498 (by decide +kernel) rfl
theorem mw_500 : (Cond.lays "WriteOnceVaultModel" "WriteOnceVaultModel" "fed" "[I") ∈ gw_T := gw_in 500 (by decide +kernel) rfl
theorem mw_502 : (Cond.lays "WriteOnceVaultModel" "WriteOnceVaultModel" "feeds" "I") ∈ gw_T := gw_in 502 (by decide +kernel) rfl
theorem mw_504 : (Cond.lays "WriteOnceVaultModel" "WriteOnceVaultModel" "sound" "I") ∈ gw_T := gw_in 504 (by decide +kernel) rfl
theorem mw_506 : (Cond.lays "WriteOnceVaultModel" "WriteOnceVaultModel" "objects" "I") ∈ gw_T := gw_in 506 (by decide +kernel) rfl
theorem mw_508 : (Cond.lays "WriteOnceVaultModel" "WriteOnceVaultModel" "state" "[I") ∈ gw_T := gw_in 508 (by decide +kernel) rfl
theorem mw_510 : (Cond.lays "WriteOnceVaultModel" "WriteOnceVaultModel" "date" "[I") ∈ gw_T := gw_in 510 (by decide +kernel) rfl
theorem mw_512 : (Cond.lays "WriteOnceVaultModel" "WriteOnceVaultModel" "holds" "[I") ∈ gw_T := gw_in 512 (by decide +kernel) rfl
theorem mw_514 : (Cond.lays "WriteOnceVaultModel" "WriteOnceVaultModel" "steps" "I") ∈ gw_T := gw_in 514 (by decide +kernel) rfl
theorem mw_516 : (Cond.lays "WriteOnceVaultModel" "WriteOnceVaultModel" "otherFrom" "[I") ∈ gw_T := gw_in 516 (by decide +kernel) rfl
theorem mw_518 : (Cond.lays "WriteOnceVaultModel" "WriteOnceVaultModel" "otherCount" "[I") ∈ gw_T := gw_in 518 (by decide +kernel) rfl
theorem mw_520 : (Cond.lays "WriteOnceVaultModel" "WriteOnceVaultModel" "right" "[Z") ∈ gw_T := gw_in 520 (by decide +kernel) rfl
theorem mw_522 : (Cond.lays "WriteOnceVaultModel" "WriteOnceVaultModel" "endFrom" "I") ∈ gw_T := gw_in 522 (by decide +kernel) rfl
theorem mw_524 : (Cond.lays "WriteOnceVaultModel" "WriteOnceVaultModel" "endCount" "I") ∈ gw_T := gw_in 524 (by decide +kernel) rfl
theorem mw_526 : (Cond.lays "WriteOnceVaultModel" "WriteOnceVaultModel" "full" "Z") ∈ gw_T := gw_in 526 (by decide +kernel) rfl
theorem mw_528 : (Cond.lays "WriteOnceVaultModel" "WriteOnceVaultModel" "level" "[I") ∈ gw_T := gw_in 528 (by decide +kernel) rfl
theorem mw_531 : (Cond.methodLink "WriteOnceVaultLaw" 17 yn_M_put) ∈ gw_T := gw_in 531 (by decide +kernel) rfl
theorem mw_532 : (Cond.instanceMethod yn_M_put) ∈ gw_T := gw_in 532 (by decide +kernel) rfl
theorem mw_533 : (Cond.selects "WriteOnceVaultModel" yn_M_put yn_M_put) ∈ gw_T := gw_in 533 (by decide +kernel) rfl
set_option maxRecDepth 20000 in
theorem mw_534 : (Cond.code yn_M_put cn_M_put 10 (some .int)) ∈ gw_T := gw_in 534 rfl rfl
theorem mw_535 : (Cond.methodLink "WriteOnceVaultModel" 111 yn_M_refusal) ∈ gw_T := gw_in 535 (by decide +kernel) rfl
theorem mw_537 : (Cond.instanceMethod yn_M_refusal) ∈ gw_T := gw_in 537 (by decide +kernel) rfl
set_option maxRecDepth 20000 in
theorem mw_538 : (Cond.code yn_M_refusal cn_M_refusal 5 (some .int)) ∈ gw_T := gw_in 538 rfl rfl
theorem mw_539 : (Cond.methodLink "WriteOnceVaultModel" 104 yn_M_goThrough) ∈ gw_T := gw_in 539 (by decide +kernel) rfl
theorem mw_541 : (Cond.instanceMethod yn_M_goThrough) ∈ gw_T := gw_in 541 (by decide +kernel) rfl
set_option maxRecDepth 20000 in
theorem mw_542 : (Cond.code yn_M_goThrough cn_M_goThrough 3 none) ∈ gw_T := gw_in 542 rfl rfl
theorem mw_543 : (Cond.methodLink "WriteOnceVaultModel" 96 yn_M_soundNext) ∈ gw_T := gw_in 543 (by decide +kernel) rfl
theorem mw_545 : (Cond.instanceMethod yn_M_soundNext) ∈ gw_T := gw_in 545 (by decide +kernel) rfl
set_option maxRecDepth 20000 in
theorem mw_546 : (Cond.code yn_M_soundNext cn_M_soundNext 8 (some .boolean)) ∈ gw_T := gw_in 546 rfl rfl
theorem mw_547 : (Cond.methodLink "WriteOnceVaultModel" 51 yn_M_leaf) ∈ gw_T := gw_in 547 (by decide +kernel) rfl
theorem mw_549 : (Cond.instanceMethod yn_M_leaf) ∈ gw_T := gw_in 549 (by decide +kernel) rfl
set_option maxRecDepth 20000 in
theorem mw_550 : (Cond.code yn_M_leaf cn_M_leaf 4 (some .int)) ∈ gw_T := gw_in 550 rfl rfl
theorem mw_551 : (Cond.methodLink "WriteOnceVaultModel" 47 yn_M_mix) ∈ gw_T := gw_in 551 (by decide +kernel) rfl
theorem mw_552 : (Cond.static yn_M_mix) ∈ gw_T := gw_in 552 (by decide +kernel) rfl
set_option maxRecDepth 20000 in
theorem mw_553 : (Cond.code yn_M_mix cn_M_mix 4 (some .int)) ∈ gw_T := gw_in 553 rfl rfl
theorem mw_554 : (Cond.constant "WriteOnceVaultModel" 46 (48271001)) ∈ gw_T := gw_in 554 (by decide +kernel) rfl
theorem mw_555 : (Cond.methodLink "WriteOnceVaultModel" 89 yn_M_rule) ∈ gw_T := gw_in 555 (by decide +kernel) rfl
theorem mw_557 : (Cond.instanceMethod yn_M_rule) ∈ gw_T := gw_in 557 (by decide +kernel) rfl
set_option maxRecDepth 20000 in
theorem mw_558 : (Cond.code yn_M_rule cn_M_rule 6 (some .int)) ∈ gw_T := gw_in 558 rfl rfl
theorem mw_559 : (Cond.constant "WriteOnceVaultModel" 82 (1000000)) ∈ gw_T := gw_in 559 (by decide +kernel) rfl
theorem mw_560 : (Cond.methodLink "WriteOnceVaultModel" 100 yn_M_apply) ∈ gw_T := gw_in 560 (by decide +kernel) rfl
theorem mw_562 : (Cond.instanceMethod yn_M_apply) ∈ gw_T := gw_in 562 (by decide +kernel) rfl
set_option maxRecDepth 20000 in
theorem mw_563 : (Cond.code yn_M_apply cn_M_apply 4 none) ∈ gw_T := gw_in 563 rfl rfl
theorem mw_564 : (Cond.methodLink "WriteOnceVaultModel" 107 yn_M_write) ∈ gw_T := gw_in 564 (by decide +kernel) rfl
theorem mw_566 : (Cond.instanceMethod yn_M_write) ∈ gw_T := gw_in 566 (by decide +kernel) rfl
set_option maxRecDepth 20000 in
theorem mw_567 : (Cond.code yn_M_write cn_M_write 3 none) ∈ gw_T := gw_in 567 rfl rfl
theorem mw_568 : (Cond.methodLink "WriteOnceVaultModel" 115 yn_M_enroll) ∈ gw_T := gw_in 568 (by decide +kernel) rfl
theorem mw_570 : (Cond.instanceMethod yn_M_enroll) ∈ gw_T := gw_in 570 (by decide +kernel) rfl
set_option maxRecDepth 20000 in
theorem mw_571 : (Cond.code yn_M_enroll cn_M_enroll 8 none) ∈ gw_T := gw_in 571 rfl rfl
theorem mw_572 : (Cond.methodLink "WriteOnceVaultLaw" 22 yn_M_extend) ∈ gw_T := gw_in 572 (by decide +kernel) rfl
theorem mw_573 : (Cond.instanceMethod yn_M_extend) ∈ gw_T := gw_in 573 (by decide +kernel) rfl
theorem mw_574 : (Cond.selects "WriteOnceVaultModel" yn_M_extend yn_M_extend) ∈ gw_T := gw_in 574 (by decide +kernel) rfl
set_option maxRecDepth 20000 in
theorem mw_575 : (Cond.code yn_M_extend cn_M_extend 3 (some .int)) ∈ gw_T := gw_in 575 rfl rfl
theorem mw_576 : (Cond.methodLink "WriteOnceVaultModel" 119 yn_M_plain) ∈ gw_T := gw_in 576 (by decide +kernel) rfl
theorem mw_578 : (Cond.instanceMethod yn_M_plain) ∈ gw_T := gw_in 578 (by decide +kernel) rfl
set_option maxRecDepth 20000 in
theorem mw_579 : (Cond.code yn_M_plain cn_M_plain 5 (some .int)) ∈ gw_T := gw_in 579 rfl rfl
theorem mw_580 : (Cond.methodLink "WriteOnceVaultLaw" 27 yn_M_hold) ∈ gw_T := gw_in 580 (by decide +kernel) rfl
theorem mw_581 : (Cond.instanceMethod yn_M_hold) ∈ gw_T := gw_in 581 (by decide +kernel) rfl
theorem mw_582 : (Cond.selects "WriteOnceVaultModel" yn_M_hold yn_M_hold) ∈ gw_T := gw_in 582 (by decide +kernel) rfl
set_option maxRecDepth 20000 in
theorem mw_583 : (Cond.code yn_M_hold cn_M_hold 4 (some .int)) ∈ gw_T := gw_in 583 rfl rfl
theorem mw_584 : (Cond.methodLink "WriteOnceVaultLaw" 32 yn_M_delete) ∈ gw_T := gw_in 584 (by decide +kernel) rfl
theorem mw_585 : (Cond.instanceMethod yn_M_delete) ∈ gw_T := gw_in 585 (by decide +kernel) rfl
theorem mw_586 : (Cond.selects "WriteOnceVaultModel" yn_M_delete yn_M_delete) ∈ gw_T := gw_in 586 (by decide +kernel) rfl
set_option maxRecDepth 20000 in
theorem mw_587 : (Cond.code yn_M_delete cn_M_delete 2 (some .int)) ∈ gw_T := gw_in 587 rfl rfl
theorem mw_588 : (Cond.methodLink "WriteOnceVaultLaw" 36 yn_M_shred) ∈ gw_T := gw_in 588 (by decide +kernel) rfl
theorem mw_589 : (Cond.instanceMethod yn_M_shred) ∈ gw_T := gw_in 589 (by decide +kernel) rfl
theorem mw_590 : (Cond.selects "WriteOnceVaultModel" yn_M_shred yn_M_shred) ∈ gw_T := gw_in 590 (by decide +kernel) rfl
set_option maxRecDepth 20000 in
theorem mw_591 : (Cond.code yn_M_shred cn_M_shred 2 (some .int)) ∈ gw_T := gw_in 591 rfl rfl
theorem mw_592 : (Cond.methodLink "WriteOnceVaultLaw" 40 yn_M_tick) ∈ gw_T := gw_in 592 (by decide +kernel) rfl
theorem mw_593 : (Cond.instanceMethod yn_M_tick) ∈ gw_T := gw_in 593 (by decide +kernel) rfl
theorem mw_594 : (Cond.selects "WriteOnceVaultModel" yn_M_tick yn_M_tick) ∈ gw_T := gw_in 594 (by decide +kernel) rfl
set_option maxRecDepth 20000 in
theorem mw_595 : (Cond.code yn_M_tick cn_M_tick 2 (some .int)) ∈ gw_T := gw_in 595 rfl rfl
theorem mw_596 : (Cond.methodLink "WriteOnceVaultLaw" 45 yn_M_get) ∈ gw_T := gw_in 596 (by decide +kernel) rfl
theorem mw_597 : (Cond.instanceMethod yn_M_get) ∈ gw_T := gw_in 597 (by decide +kernel) rfl
theorem mw_598 : (Cond.selects "WriteOnceVaultModel" yn_M_get yn_M_get) ∈ gw_T := gw_in 598 (by decide +kernel) rfl
set_option maxRecDepth 20000 in
theorem mw_599 : (Cond.code yn_M_get cn_M_get 6 (some .long)) ∈ gw_T := gw_in 599 rfl rfl
theorem mw_600 : (Cond.constantLong "WriteOnceVaultModel" 77 (1099511627776)) ∈ gw_T := gw_in 600 (by decide +kernel) rfl
theorem mw_601 : (Cond.methodLink "WriteOnceVaultLaw" 49 yn_M_look) ∈ gw_T := gw_in 601 (by decide +kernel) rfl
theorem mw_602 : (Cond.instanceMethod yn_M_look) ∈ gw_T := gw_in 602 (by decide +kernel) rfl
theorem mw_603 : (Cond.selects "WriteOnceVaultModel" yn_M_look yn_M_look) ∈ gw_T := gw_in 603 (by decide +kernel) rfl
set_option maxRecDepth 20000 in
theorem mw_604 : (Cond.code yn_M_look cn_M_look 3 (some .int)) ∈ gw_T := gw_in 604 rfl rfl
theorem mw_605 : (Cond.methodLink "WriteOnceVaultLaw" 54 yn_M_records) ∈ gw_T := gw_in 605 (by decide +kernel) rfl
theorem mw_606 : (Cond.instanceMethod yn_M_records) ∈ gw_T := gw_in 606 (by decide +kernel) rfl
theorem mw_607 : (Cond.selects "WriteOnceVaultModel" yn_M_records yn_M_records) ∈ gw_T := gw_in 607 (by decide +kernel) rfl
set_option maxRecDepth 20000 in
theorem mw_608 : (Cond.code yn_M_records cn_M_records 1 (some .int)) ∈ gw_T := gw_in 608 rfl rfl
theorem mw_609 : (Cond.methodLink "WriteOnceVaultLaw" 59 yn_M_root) ∈ gw_T := gw_in 609 (by decide +kernel) rfl
theorem mw_610 : (Cond.instanceMethod yn_M_root) ∈ gw_T := gw_in 610 (by decide +kernel) rfl
theorem mw_611 : (Cond.selects "WriteOnceVaultModel" yn_M_root yn_M_root) ∈ gw_T := gw_in 611 (by decide +kernel) rfl
set_option maxRecDepth 20000 in
theorem mw_612 : (Cond.code yn_M_root cn_M_root 2 (some .long)) ∈ gw_T := gw_in 612 rfl rfl
theorem mw_613 : (Cond.methodLink "WriteOnceVaultModel" 79 yn_M_tree) ∈ gw_T := gw_in 613 (by decide +kernel) rfl
theorem mw_615 : (Cond.instanceMethod yn_M_tree) ∈ gw_T := gw_in 615 (by decide +kernel) rfl
set_option maxRecDepth 20000 in
theorem mw_616 : (Cond.code yn_M_tree cn_M_tree 5 (some .int)) ∈ gw_T := gw_in 616 rfl rfl
theorem mw_617 : (Cond.methodLink "WriteOnceVaultModel" 55 yn_M_node) ∈ gw_T := gw_in 617 (by decide +kernel) rfl
theorem mw_618 : (Cond.static yn_M_node) ∈ gw_T := gw_in 618 (by decide +kernel) rfl
set_option maxRecDepth 20000 in
theorem mw_619 : (Cond.code yn_M_node cn_M_node 3 (some .int)) ∈ gw_T := gw_in 619 rfl rfl
theorem mw_620 : (Cond.methodLink "WriteOnceVaultLaw" 64 yn_M_path) ∈ gw_T := gw_in 620 (by decide +kernel) rfl
theorem mw_621 : (Cond.instanceMethod yn_M_path) ∈ gw_T := gw_in 621 (by decide +kernel) rfl
theorem mw_622 : (Cond.selects "WriteOnceVaultModel" yn_M_path yn_M_path) ∈ gw_T := gw_in 622 (by decide +kernel) rfl
set_option maxRecDepth 20000 in
theorem mw_623 : (Cond.code yn_M_path cn_M_path 4 (some .long)) ∈ gw_T := gw_in 623 rfl rfl
theorem mw_624 : (Cond.methodLink "WriteOnceVaultModel" 122 yn_M_wayToLeaf) ∈ gw_T := gw_in 624 (by decide +kernel) rfl
theorem mw_626 : (Cond.instanceMethod yn_M_wayToLeaf) ∈ gw_T := gw_in 626 (by decide +kernel) rfl
set_option maxRecDepth 20000 in
theorem mw_627 : (Cond.code yn_M_wayToLeaf cn_M_wayToLeaf 6 none) ∈ gw_T := gw_in 627 rfl rfl
theorem mw_628 : (Cond.methodLink "WriteOnceVaultModel" 61 yn_M_half) ∈ gw_T := gw_in 628 (by decide +kernel) rfl
theorem mw_629 : (Cond.static yn_M_half) ∈ gw_T := gw_in 629 (by decide +kernel) rfl
set_option maxRecDepth 20000 in
theorem mw_630 : (Cond.code yn_M_half cn_M_half 2 (some .int)) ∈ gw_T := gw_in 630 rfl rfl
theorem mw_631 : (Cond.methodLink "WriteOnceVaultModel" 64 yn_M_step) ∈ gw_T := gw_in 631 (by decide +kernel) rfl
theorem mw_633 : (Cond.instanceMethod yn_M_step) ∈ gw_T := gw_in 633 (by decide +kernel) rfl
set_option maxRecDepth 20000 in
theorem mw_634 : (Cond.code yn_M_step cn_M_step 4 none) ∈ gw_T := gw_in 634 rfl rfl
theorem mw_635 : (Cond.methodLink "WriteOnceVaultModel" 125 yn_M_digest) ∈ gw_T := gw_in 635 (by decide +kernel) rfl
theorem mw_637 : (Cond.instanceMethod yn_M_digest) ∈ gw_T := gw_in 637 (by decide +kernel) rfl
set_option maxRecDepth 20000 in
theorem mw_638 : (Cond.code yn_M_digest cn_M_digest 4 (some .long)) ∈ gw_T := gw_in 638 rfl rfl
theorem mw_639 : (Cond.methodLink "WriteOnceVaultLaw" 68 yn_M_bridge) ∈ gw_T := gw_in 639 (by decide +kernel) rfl
theorem mw_640 : (Cond.instanceMethod yn_M_bridge) ∈ gw_T := gw_in 640 (by decide +kernel) rfl
theorem mw_641 : (Cond.selects "WriteOnceVaultModel" yn_M_bridge yn_M_bridge) ∈ gw_T := gw_in 641 (by decide +kernel) rfl
set_option maxRecDepth 20000 in
theorem mw_642 : (Cond.code yn_M_bridge cn_M_bridge 4 (some .long)) ∈ gw_T := gw_in 642 rfl rfl
theorem mw_643 : (Cond.methodLink "WriteOnceVaultModel" 129 yn_M_wayToEnd) ∈ gw_T := gw_in 643 (by decide +kernel) rfl
theorem mw_645 : (Cond.instanceMethod yn_M_wayToEnd) ∈ gw_T := gw_in 645 (by decide +kernel) rfl
set_option maxRecDepth 20000 in
theorem mw_646 : (Cond.code yn_M_wayToEnd cn_M_wayToEnd 6 none) ∈ gw_T := gw_in 646 rfl rfl
theorem mw_647 : (Cond.methodLink "WriteOnceVaultLaw" 73 yn_M_feed) ∈ gw_T := gw_in 647 (by decide +kernel) rfl
theorem mw_648 : (Cond.instanceMethod yn_M_feed) ∈ gw_T := gw_in 648 (by decide +kernel) rfl
theorem mw_649 : (Cond.selects "WriteOnceVaultModel" yn_M_feed yn_M_feed) ∈ gw_T := gw_in 649 (by decide +kernel) rfl
set_option maxRecDepth 20000 in
theorem mw_650 : (Cond.code yn_M_feed cn_M_feed 2 (some .boolean)) ∈ gw_T := gw_in 650 rfl rfl
theorem mw_651 : (Cond.methodLink "WriteOnceVaultLaw" 78 yn_M_included) ∈ gw_T := gw_in 651 (by decide +kernel) rfl
theorem mw_652 : (Cond.instanceMethod yn_M_included) ∈ gw_T := gw_in 652 (by decide +kernel) rfl
theorem mw_653 : (Cond.selects "WriteOnceVaultModel" yn_M_included yn_M_included) ∈ gw_T := gw_in 653 (by decide +kernel) rfl
set_option maxRecDepth 20000 in
theorem mw_654 : (Cond.code yn_M_included cn_M_included 7 (some .boolean)) ∈ gw_T := gw_in 654 rfl rfl
theorem mw_655 : (Cond.methodLink "WriteOnceVaultLaw" 83 yn_M_extended) ∈ gw_T := gw_in 655 (by decide +kernel) rfl
theorem mw_656 : (Cond.instanceMethod yn_M_extended) ∈ gw_T := gw_in 656 (by decide +kernel) rfl
theorem mw_657 : (Cond.selects "WriteOnceVaultModel" yn_M_extended yn_M_extended) ∈ gw_T := gw_in 657 (by decide +kernel) rfl
set_option maxRecDepth 20000 in
theorem mw_658 : (Cond.code yn_M_extended cn_M_extended 10 (some .boolean)) ∈ gw_T := gw_in 658 rfl rfl
theorem mw_659 : (Cond.methodLink "WriteOnceVaultLaw" 87 yn_M_word) ∈ gw_T := gw_in 659 (by decide +kernel) rfl
theorem mw_660 : (Cond.instanceMethod yn_M_word) ∈ gw_T := gw_in 660 (by decide +kernel) rfl
theorem mw_661 : (Cond.selects "WriteOnceVaultModel" yn_M_word yn_M_word) ∈ gw_T := gw_in 661 (by decide +kernel) rfl
set_option maxRecDepth 20000 in
theorem mw_662 : (Cond.code yn_M_word cn_M_word 2 (some .long)) ∈ gw_T := gw_in 662 rfl rfl
theorem mw_663 : (Cond.methodLink "WriteOnceVaultLaw" 92 yn_M_alter) ∈ gw_T := gw_in 663 (by decide +kernel) rfl
theorem mw_664 : (Cond.instanceMethod yn_M_alter) ∈ gw_T := gw_in 664 (by decide +kernel) rfl
theorem mw_665 : (Cond.selects "WriteOnceVaultModel" yn_M_alter yn_M_alter) ∈ gw_T := gw_in 665 (by decide +kernel) rfl
set_option maxRecDepth 20000 in
theorem mw_666 : (Cond.code yn_M_alter cn_M_alter 3 (some .boolean)) ∈ gw_T := gw_in 666 rfl rfl
theorem mw_667 : (Cond.methodLink "WriteOnceVaultLaw" 97 yn_M_power) ∈ gw_T := gw_in 667 (by decide +kernel) rfl
theorem mw_668 : (Cond.instanceMethod yn_M_power) ∈ gw_T := gw_in 668 (by decide +kernel) rfl
theorem mw_669 : (Cond.selects "WriteOnceVaultModel" yn_M_power yn_M_power) ∈ gw_T := gw_in 669 (by decide +kernel) rfl
set_option maxRecDepth 20000 in
theorem mw_670 : (Cond.code yn_M_power cn_M_power 3 (some .int)) ∈ gw_T := gw_in 670 rfl rfl
theorem mw_671 : (Cond.methodLink "WriteOnceVaultLaw" 101 yn_M_cut) ∈ gw_T := gw_in 671 (by decide +kernel) rfl
theorem mw_672 : (Cond.instanceMethod yn_M_cut) ∈ gw_T := gw_in 672 (by decide +kernel) rfl
theorem mw_673 : (Cond.selects "WriteOnceVaultModel" yn_M_cut yn_M_cut) ∈ gw_T := gw_in 673 (by decide +kernel) rfl
set_option maxRecDepth 20000 in
theorem mw_674 : (Cond.code yn_M_cut cn_M_cut 2 (some .boolean)) ∈ gw_T := gw_in 674 rfl rfl
theorem mw_675 : (Cond.methodLink "WriteOnceVaultLaw" 105 yn_M_audit) ∈ gw_T := gw_in 675 (by decide +kernel) rfl
theorem mw_676 : (Cond.instanceMethod yn_M_audit) ∈ gw_T := gw_in 676 (by decide +kernel) rfl
theorem mw_677 : (Cond.selects "WriteOnceVaultModel" yn_M_audit yn_M_audit) ∈ gw_T := gw_in 677 (by decide +kernel) rfl
set_option maxRecDepth 20000 in
theorem mw_678 : (Cond.code yn_M_audit cn_M_audit 4 (some .int)) ∈ gw_T := gw_in 678 rfl rfl
theorem mv_0 : (Cond.selects "WriteOnceVault" yn_X_refusalOf yn_X_refusalOf) ∈ gw_T := gw_ip 0 (by decide +kernel) rfl
theorem mv_1 : (Cond.selects "WriteOnceVault$Catalog" yn_C_verdictOfKind yn_C_verdictOfKind) ∈ gw_T := gw_ip 1 (by decide +kernel) rfl
theorem mv_2 : (Cond.selects "WriteOnceVault$Catalog" yn_C_putVerdict yn_C_putVerdict) ∈ gw_T := gw_ip 2 (by decide +kernel) rfl
theorem mv_3 : (Cond.selects "WriteOnceVault$Catalog" yn_C_extendVerdict yn_C_extendVerdict) ∈ gw_T := gw_ip 3 (by decide +kernel) rfl
theorem mv_4 : (Cond.selects "WriteOnceVault$Catalog" yn_C_holdVerdict yn_C_holdVerdict) ∈ gw_T := gw_ip 4 (by decide +kernel) rfl
theorem mv_5 : (Cond.selects "WriteOnceVault$Catalog" yn_C_endVerdict yn_C_endVerdict) ∈ gw_T := gw_ip 5 (by decide +kernel) rfl
theorem mv_6 : (Cond.selects "WriteOnceVault" yn_X_draftRecord yn_X_draftRecord) ∈ gw_T := gw_ip 6 (by decide +kernel) rfl
theorem mv_7 : (Cond.selects "WriteOnceVault" yn_X_writeWord yn_X_writeWord) ∈ gw_T := gw_ip 7 (by decide +kernel) rfl
theorem mv_8 : (Cond.selects "WriteOnceVault" yn_X_writeDraft yn_X_writeDraft) ∈ gw_T := gw_ip 8 (by decide +kernel) rfl
theorem mv_9 : (Cond.selects "WriteOnceVault$Catalog" yn_C_addObject yn_C_addObject) ∈ gw_T := gw_ip 9 (by decide +kernel) rfl
theorem mv_10 : (Cond.selects "WriteOnceVault$Catalog" yn_C_changeObject yn_C_changeObject) ∈ gw_T := gw_ip 10 (by decide +kernel) rfl
theorem mv_11 : (Cond.selects "WriteOnceVault" yn_X_change yn_X_change) ∈ gw_T := gw_ip 11 (by decide +kernel) rfl
theorem mv_12 : (Cond.selects "WriteOnceVault$Image" yn_G_leaf yn_G_leaf) ∈ gw_T := gw_ip 12 (by decide +kernel) rfl
theorem mv_13 : (Cond.selects "WriteOnceVault$Image" yn_G_joinNeighbours yn_G_joinNeighbours) ∈ gw_T := gw_ip 13 (by decide +kernel) rfl
theorem mv_14 : (Cond.selects "WriteOnceVault$Descent" yn_E_goDown yn_E_goDown) ∈ gw_T := gw_ip 14 (by decide +kernel) rfl
theorem mv_15 : (Cond.selects "WriteOnceVault$Descent" yn_E_stepTowards yn_E_stepTowards) ∈ gw_T := gw_ip 15 (by decide +kernel) rfl
theorem mv_16 : (Cond.selects "WriteOnceVault" yn_X_digestOnTheWay yn_X_digestOnTheWay) ∈ gw_T := gw_ip 16 (by decide +kernel) rfl
theorem mv_17 : (Cond.selects "WriteOnceVault$Descent" yn_E_stepOf yn_E_stepOf) ∈ gw_T := gw_ip 17 (by decide +kernel) rfl
theorem mv_18 : (Cond.selects "WriteOnceVault$Catalog" yn_C_isSoundNext yn_C_isSoundNext) ∈ gw_T := gw_ip 18 (by decide +kernel) rfl
theorem mv_19 : (Cond.selects "WriteOnceVault$Catalog" yn_C_isWellFormed yn_C_isWellFormed) ∈ gw_T := gw_ip 19 (by decide +kernel) rfl
theorem mv_20 : (Cond.selects "WriteOnceVault" yn_X_wipeWhatIsNotSound yn_X_wipeWhatIsNotSound) ∈ gw_T := gw_ip 20 (by decide +kernel) rfl
theorem mv_21 : (Cond.selects "WriteOnceVaultModel" yn_M_refusal yn_M_refusal) ∈ gw_T := gw_ip 21 (by decide +kernel) rfl
theorem mv_22 : (Cond.selects "WriteOnceVaultModel" yn_M_goThrough yn_M_goThrough) ∈ gw_T := gw_ip 22 (by decide +kernel) rfl
theorem mv_23 : (Cond.selects "WriteOnceVaultModel" yn_M_soundNext yn_M_soundNext) ∈ gw_T := gw_ip 23 (by decide +kernel) rfl
theorem mv_24 : (Cond.selects "WriteOnceVaultModel" yn_M_leaf yn_M_leaf) ∈ gw_T := gw_ip 24 (by decide +kernel) rfl
theorem mv_25 : (Cond.selects "WriteOnceVaultModel" yn_M_rule yn_M_rule) ∈ gw_T := gw_ip 25 (by decide +kernel) rfl
theorem mv_26 : (Cond.selects "WriteOnceVaultModel" yn_M_apply yn_M_apply) ∈ gw_T := gw_ip 26 (by decide +kernel) rfl
theorem mv_27 : (Cond.selects "WriteOnceVaultModel" yn_M_write yn_M_write) ∈ gw_T := gw_ip 27 (by decide +kernel) rfl
theorem mv_28 : (Cond.selects "WriteOnceVaultModel" yn_M_enroll yn_M_enroll) ∈ gw_T := gw_ip 28 (by decide +kernel) rfl
theorem mv_29 : (Cond.selects "WriteOnceVaultModel" yn_M_plain yn_M_plain) ∈ gw_T := gw_ip 29 (by decide +kernel) rfl
theorem mv_30 : (Cond.selects "WriteOnceVaultModel" yn_M_tree yn_M_tree) ∈ gw_T := gw_ip 30 (by decide +kernel) rfl
theorem mv_31 : (Cond.selects "WriteOnceVaultModel" yn_M_wayToLeaf yn_M_wayToLeaf) ∈ gw_T := gw_ip 31 (by decide +kernel) rfl
theorem mv_32 : (Cond.selects "WriteOnceVaultModel" yn_M_step yn_M_step) ∈ gw_T := gw_ip 32 (by decide +kernel) rfl
theorem mv_33 : (Cond.selects "WriteOnceVaultModel" yn_M_digest yn_M_digest) ∈ gw_T := gw_ip 33 (by decide +kernel) rfl
theorem mv_34 : (Cond.selects "WriteOnceVaultModel" yn_M_wayToEnd yn_M_wayToEnd) ∈ gw_T := gw_ip 34 (by decide +kernel) rfl
theorem ml_C : ∀ w ∈ u_ws rn_C tn_C 6, w ∈ gw_T := List.forall_mem_cons.mpr ⟨mw_43, List.forall_mem_cons.mpr ⟨mw_45, List.forall_mem_cons.mpr ⟨mw_47, List.forall_mem_cons.mpr ⟨mw_49, List.forall_mem_cons.mpr ⟨mw_51, List.forall_mem_cons.mpr ⟨mw_53, fun _ h => absurd h List.not_mem_nil⟩⟩⟩⟩⟩⟩
theorem ml_E : ∀ w ∈ u_ws rn_E tn_E 7, w ∈ gw_T := List.forall_mem_cons.mpr ⟨mw_69, List.forall_mem_cons.mpr ⟨mw_71, List.forall_mem_cons.mpr ⟨mw_73, List.forall_mem_cons.mpr ⟨mw_75, List.forall_mem_cons.mpr ⟨mw_77, List.forall_mem_cons.mpr ⟨mw_79, List.forall_mem_cons.mpr ⟨mw_81, fun _ h => absurd h List.not_mem_nil⟩⟩⟩⟩⟩⟩⟩
theorem ml_F : ∀ w ∈ u_ws rn_F tn_F 2, w ∈ gw_T := List.forall_mem_cons.mpr ⟨mw_93, List.forall_mem_cons.mpr ⟨mw_95, fun _ h => absurd h List.not_mem_nil⟩⟩
theorem ml_G : ∀ w ∈ u_ws rn_G tn_G 2, w ∈ gw_T := List.forall_mem_cons.mpr ⟨mw_25, List.forall_mem_cons.mpr ⟨mw_27, fun _ h => absurd h List.not_mem_nil⟩⟩
theorem ml_X : ∀ w ∈ u_ws rn_X tn_X 9, w ∈ gw_T := List.forall_mem_cons.mpr ⟨mw_107, List.forall_mem_cons.mpr ⟨mw_109, List.forall_mem_cons.mpr ⟨mw_111, List.forall_mem_cons.mpr ⟨mw_113, List.forall_mem_cons.mpr ⟨mw_115, List.forall_mem_cons.mpr ⟨mw_117, List.forall_mem_cons.mpr ⟨mw_119, List.forall_mem_cons.mpr ⟨mw_121, List.forall_mem_cons.mpr ⟨mw_123, fun _ h => absurd h List.not_mem_nil⟩⟩⟩⟩⟩⟩⟩⟩⟩
theorem ml_M : ∀ w ∈ u_ws rn_M tn_M 19, w ∈ gw_T := List.forall_mem_cons.mpr ⟨mw_492, List.forall_mem_cons.mpr ⟨mw_494, List.forall_mem_cons.mpr ⟨mw_496, List.forall_mem_cons.mpr ⟨mw_498, List.forall_mem_cons.mpr ⟨mw_500, List.forall_mem_cons.mpr ⟨mw_502, List.forall_mem_cons.mpr ⟨mw_504, List.forall_mem_cons.mpr ⟨mw_506, List.forall_mem_cons.mpr ⟨mw_508, List.forall_mem_cons.mpr ⟨mw_510, List.forall_mem_cons.mpr ⟨mw_512, List.forall_mem_cons.mpr ⟨mw_514, List.forall_mem_cons.mpr ⟨mw_516, List.forall_mem_cons.mpr ⟨mw_518, List.forall_mem_cons.mpr ⟨mw_520, List.forall_mem_cons.mpr ⟨mw_522, List.forall_mem_cons.mpr ⟨mw_524, List.forall_mem_cons.mpr ⟨mw_526, List.forall_mem_cons.mpr ⟨mw_528, fun _ h => absurd h List.not_mem_nil⟩⟩⟩⟩⟩⟩⟩⟩⟩⟩⟩⟩⟩⟩⟩⟩⟩⟩⟩
