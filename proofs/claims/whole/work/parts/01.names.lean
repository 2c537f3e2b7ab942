-- ===== PART A: goes FIRST, ahead of the names: the tables' words, and 'selects' of the private methods out of them =====
/-- a private method of a class that the tables say can be made, by its rows of tables_1 -/
def lw_okq (q : MethodName × Nat) : Prop := (q.1.cls ≠ "java/lang/invoke/MethodHandle" ∧ q.1.cls ≠ "java/lang/invoke/VarHandle") ∧ Cond.instantiable q.1.cls q.2 ∈ tables_1 ∧ Cond.privateMethod q.1 ∈ tables_1 ∧ Cond.instanceMethod q.1 ∈ tables_1
theorem lw_p0 : lw_okq (⟨"WriteOnceVault", "refusalOf", "(III)I"⟩, 9) := ⟨⟨by decide +kernel, by decide +kernel⟩, List.mem_of_getElem? (i := 10) (by decide +kernel), List.mem_of_getElem? (i := 135) (by decide +kernel), List.mem_of_getElem? (i := 136) (by decide +kernel)⟩
theorem lw_p1 : lw_okq (⟨"WriteOnceVault$Catalog", "verdictOfKind", "(IIII)I"⟩, 6) := ⟨⟨by decide +kernel, by decide +kernel⟩, List.mem_of_getElem? (i := 32) (by decide +kernel), List.mem_of_getElem? (i := 143) (by decide +kernel), List.mem_of_getElem? (i := 144) (by decide +kernel)⟩
theorem lw_p2 : lw_okq (⟨"WriteOnceVault$Catalog", "putVerdict", "(II)I"⟩, 6) := ⟨⟨by decide +kernel, by decide +kernel⟩, List.mem_of_getElem? (i := 32) (by decide +kernel), List.mem_of_getElem? (i := 147) (by decide +kernel), List.mem_of_getElem? (i := 148) (by decide +kernel)⟩
theorem lw_p3 : lw_okq (⟨"WriteOnceVault$Catalog", "extendVerdict", "(II)I"⟩, 6) := ⟨⟨by decide +kernel, by decide +kernel⟩, List.mem_of_getElem? (i := 32) (by decide +kernel), List.mem_of_getElem? (i := 155) (by decide +kernel), List.mem_of_getElem? (i := 156) (by decide +kernel)⟩
theorem lw_p4 : lw_okq (⟨"WriteOnceVault$Catalog", "holdVerdict", "(IIZ)I"⟩, 6) := ⟨⟨by decide +kernel, by decide +kernel⟩, List.mem_of_getElem? (i := 32) (by decide +kernel), List.mem_of_getElem? (i := 163) (by decide +kernel), List.mem_of_getElem? (i := 164) (by decide +kernel)⟩
theorem lw_p5 : lw_okq (⟨"WriteOnceVault$Catalog", "endVerdict", "(IZI)I"⟩, 6) := ⟨⟨by decide +kernel, by decide +kernel⟩, List.mem_of_getElem? (i := 32) (by decide +kernel), List.mem_of_getElem? (i := 171) (by decide +kernel), List.mem_of_getElem? (i := 172) (by decide +kernel)⟩
theorem lw_p6 : lw_okq (⟨"WriteOnceVault", "draftRecord", "(IIIII)V"⟩, 9) := ⟨⟨by decide +kernel, by decide +kernel⟩, List.mem_of_getElem? (i := 10) (by decide +kernel), List.mem_of_getElem? (i := 185) (by decide +kernel), List.mem_of_getElem? (i := 186) (by decide +kernel)⟩
theorem lw_p7 : lw_okq (⟨"WriteOnceVault", "writeWord", "(II)Z"⟩, 9) := ⟨⟨by decide +kernel, by decide +kernel⟩, List.mem_of_getElem? (i := 10) (by decide +kernel), List.mem_of_getElem? (i := 195) (by decide +kernel), List.mem_of_getElem? (i := 196) (by decide +kernel)⟩
theorem lw_p8 : lw_okq (⟨"WriteOnceVault", "writeDraft", "()Z"⟩, 9) := ⟨⟨by decide +kernel, by decide +kernel⟩, List.mem_of_getElem? (i := 10) (by decide +kernel), List.mem_of_getElem? (i := 206) (by decide +kernel), List.mem_of_getElem? (i := 207) (by decide +kernel)⟩
theorem lw_p9 : lw_okq (⟨"WriteOnceVault$Catalog", "addObject", "(I)V"⟩, 6) := ⟨⟨by decide +kernel, by decide +kernel⟩, List.mem_of_getElem? (i := 32) (by decide +kernel), List.mem_of_getElem? (i := 221) (by decide +kernel), List.mem_of_getElem? (i := 222) (by decide +kernel)⟩
theorem lw_p10 : lw_okq (⟨"WriteOnceVault$Catalog", "changeObject", "(III)V"⟩, 6) := ⟨⟨by decide +kernel, by decide +kernel⟩, List.mem_of_getElem? (i := 32) (by decide +kernel), List.mem_of_getElem? (i := 225) (by decide +kernel), List.mem_of_getElem? (i := 226) (by decide +kernel)⟩
theorem lw_p11 : lw_okq (⟨"WriteOnceVault", "change", "(III)I"⟩, 9) := ⟨⟨by decide +kernel, by decide +kernel⟩, List.mem_of_getElem? (i := 10) (by decide +kernel), List.mem_of_getElem? (i := 233) (by decide +kernel), List.mem_of_getElem? (i := 234) (by decide +kernel)⟩
theorem lw_p12 : lw_okq (⟨"WriteOnceVault$Image", "leaf", "(I)I"⟩, 2) := ⟨⟨by decide +kernel, by decide +kernel⟩, List.mem_of_getElem? (i := 18) (by decide +kernel), List.mem_of_getElem? (i := 306) (by decide +kernel), List.mem_of_getElem? (i := 307) (by decide +kernel)⟩
theorem lw_p13 : lw_okq (⟨"WriteOnceVault$Image", "joinNeighbours", "(I)V"⟩, 2) := ⟨⟨by decide +kernel, by decide +kernel⟩, List.mem_of_getElem? (i := 18) (by decide +kernel), List.mem_of_getElem? (i := 311) (by decide +kernel), List.mem_of_getElem? (i := 312) (by decide +kernel)⟩
theorem lw_p14 : lw_okq (⟨"WriteOnceVault$Descent", "goDown", "(IIZ)V"⟩, 7) := ⟨⟨by decide +kernel, by decide +kernel⟩, List.mem_of_getElem? (i := 57) (by decide +kernel), List.mem_of_getElem? (i := 326) (by decide +kernel), List.mem_of_getElem? (i := 327) (by decide +kernel)⟩
theorem lw_p15 : lw_okq (⟨"WriteOnceVault$Descent", "stepTowards", "(II)V"⟩, 7) := ⟨⟨by decide +kernel, by decide +kernel⟩, List.mem_of_getElem? (i := 57) (by decide +kernel), List.mem_of_getElem? (i := 330) (by decide +kernel), List.mem_of_getElem? (i := 331) (by decide +kernel)⟩
def lw_privs_1 : List (MethodName × Nat) := [(⟨"WriteOnceVault", "refusalOf", "(III)I"⟩, 9), (⟨"WriteOnceVault$Catalog", "verdictOfKind", "(IIII)I"⟩, 6), (⟨"WriteOnceVault$Catalog", "putVerdict", "(II)I"⟩, 6), (⟨"WriteOnceVault$Catalog", "extendVerdict", "(II)I"⟩, 6), (⟨"WriteOnceVault$Catalog", "holdVerdict", "(IIZ)I"⟩, 6), (⟨"WriteOnceVault$Catalog", "endVerdict", "(IZI)I"⟩, 6), (⟨"WriteOnceVault", "draftRecord", "(IIIII)V"⟩, 9), (⟨"WriteOnceVault", "writeWord", "(II)Z"⟩, 9), (⟨"WriteOnceVault", "writeDraft", "()Z"⟩, 9), (⟨"WriteOnceVault$Catalog", "addObject", "(I)V"⟩, 6), (⟨"WriteOnceVault$Catalog", "changeObject", "(III)V"⟩, 6), (⟨"WriteOnceVault", "change", "(III)I"⟩, 9), (⟨"WriteOnceVault$Image", "leaf", "(I)I"⟩, 2), (⟨"WriteOnceVault$Image", "joinNeighbours", "(I)V"⟩, 2), (⟨"WriteOnceVault$Descent", "goDown", "(IIZ)V"⟩, 7), (⟨"WriteOnceVault$Descent", "stepTowards", "(II)V"⟩, 7)]
theorem lw_r1 : ∀ q ∈ lw_privs_1, lw_okq q := List.forall_mem_cons.mpr ⟨lw_p0, List.forall_mem_cons.mpr ⟨lw_p1, List.forall_mem_cons.mpr ⟨lw_p2, List.forall_mem_cons.mpr ⟨lw_p3, List.forall_mem_cons.mpr ⟨lw_p4, List.forall_mem_cons.mpr ⟨lw_p5, List.forall_mem_cons.mpr ⟨lw_p6, List.forall_mem_cons.mpr ⟨lw_p7, List.forall_mem_cons.mpr ⟨lw_p8, List.forall_mem_cons.mpr ⟨lw_p9, List.forall_mem_cons.mpr ⟨lw_p10, List.forall_mem_cons.mpr ⟨lw_p11, List.forall_mem_cons.mpr ⟨lw_p12, List.forall_mem_cons.mpr ⟨lw_p13, List.forall_mem_cons.mpr ⟨lw_p14, List.forall_mem_cons.mpr ⟨lw_p15, fun _ h => absurd h List.not_mem_nil⟩⟩⟩⟩⟩⟩⟩⟩⟩⟩⟩⟩⟩⟩⟩⟩
theorem lw_p16 : lw_okq (⟨"WriteOnceVault", "digestOnTheWay", "(I)J"⟩, 9) := ⟨⟨by decide +kernel, by decide +kernel⟩, List.mem_of_getElem? (i := 10) (by decide +kernel), List.mem_of_getElem? (i := 342) (by decide +kernel), List.mem_of_getElem? (i := 343) (by decide +kernel)⟩
theorem lw_p17 : lw_okq (⟨"WriteOnceVault$Descent", "stepOf", "(I)I"⟩, 7) := ⟨⟨by decide +kernel, by decide +kernel⟩, List.mem_of_getElem? (i := 57) (by decide +kernel), List.mem_of_getElem? (i := 354) (by decide +kernel), List.mem_of_getElem? (i := 355) (by decide +kernel)⟩
theorem lw_p18 : lw_okq (⟨"WriteOnceVault$Catalog", "isSoundNext", "(LWriteOnceVault$Image;II)Z"⟩, 6) := ⟨⟨by decide +kernel, by decide +kernel⟩, List.mem_of_getElem? (i := 32) (by decide +kernel), List.mem_of_getElem? (i := 427) (by decide +kernel), List.mem_of_getElem? (i := 428) (by decide +kernel)⟩
theorem lw_p19 : lw_okq (⟨"WriteOnceVault$Catalog", "isWellFormed", "(LWriteOnceVault$Image;I)Z"⟩, 6) := ⟨⟨by decide +kernel, by decide +kernel⟩, List.mem_of_getElem? (i := 32) (by decide +kernel), List.mem_of_getElem? (i := 440) (by decide +kernel), List.mem_of_getElem? (i := 441) (by decide +kernel)⟩
theorem lw_p20 : lw_okq (⟨"WriteOnceVault", "wipeWhatIsNotSound", "()V"⟩, 9) := ⟨⟨by decide +kernel, by decide +kernel⟩, List.mem_of_getElem? (i := 10) (by decide +kernel), List.mem_of_getElem? (i := 447) (by decide +kernel), List.mem_of_getElem? (i := 448) (by decide +kernel)⟩
theorem lw_p21 : lw_okq (⟨"WriteOnceVaultModel", "refusal", "(III)I"⟩, 19) := ⟨⟨by decide +kernel, by decide +kernel⟩, List.mem_of_getElem? (i := 468) (by decide +kernel), List.mem_of_getElem? (i := 536) (by decide +kernel), List.mem_of_getElem? (i := 537) (by decide +kernel)⟩
theorem lw_p22 : lw_okq (⟨"WriteOnceVaultModel", "goThrough", "()V"⟩, 19) := ⟨⟨by decide +kernel, by decide +kernel⟩, List.mem_of_getElem? (i := 468) (by decide +kernel), List.mem_of_getElem? (i := 540) (by decide +kernel), List.mem_of_getElem? (i := 541) (by decide +kernel)⟩
theorem lw_p23 : lw_okq (⟨"WriteOnceVaultModel", "soundNext", "(II)Z"⟩, 19) := ⟨⟨by decide +kernel, by decide +kernel⟩, List.mem_of_getElem? (i := 468) (by decide +kernel), List.mem_of_getElem? (i := 544) (by decide +kernel), List.mem_of_getElem? (i := 545) (by decide +kernel)⟩
theorem lw_p24 : lw_okq (⟨"WriteOnceVaultModel", "leaf", "(I)I"⟩, 19) := ⟨⟨by decide +kernel, by decide +kernel⟩, List.mem_of_getElem? (i := 468) (by decide +kernel), List.mem_of_getElem? (i := 548) (by decide +kernel), List.mem_of_getElem? (i := 549) (by decide +kernel)⟩
theorem lw_p25 : lw_okq (⟨"WriteOnceVaultModel", "rule", "(IIII)I"⟩, 19) := ⟨⟨by decide +kernel, by decide +kernel⟩, List.mem_of_getElem? (i := 468) (by decide +kernel), List.mem_of_getElem? (i := 556) (by decide +kernel), List.mem_of_getElem? (i := 557) (by decide +kernel)⟩
theorem lw_p26 : lw_okq (⟨"WriteOnceVaultModel", "apply", "(III)V"⟩, 19) := ⟨⟨by decide +kernel, by decide +kernel⟩, List.mem_of_getElem? (i := 468) (by decide +kernel), List.mem_of_getElem? (i := 561) (by decide +kernel), List.mem_of_getElem? (i := 562) (by decide +kernel)⟩
theorem lw_p27 : lw_okq (⟨"WriteOnceVaultModel", "write", "(II)V"⟩, 19) := ⟨⟨by decide +kernel, by decide +kernel⟩, List.mem_of_getElem? (i := 468) (by decide +kernel), List.mem_of_getElem? (i := 565) (by decide +kernel), List.mem_of_getElem? (i := 566) (by decide +kernel)⟩
theorem lw_p28 : lw_okq (⟨"WriteOnceVaultModel", "enroll", "(IIIII)V"⟩, 19) := ⟨⟨by decide +kernel, by decide +kernel⟩, List.mem_of_getElem? (i := 468) (by decide +kernel), List.mem_of_getElem? (i := 569) (by decide +kernel), List.mem_of_getElem? (i := 570) (by decide +kernel)⟩
theorem lw_p29 : lw_okq (⟨"WriteOnceVaultModel", "plain", "(III)I"⟩, 19) := ⟨⟨by decide +kernel, by decide +kernel⟩, List.mem_of_getElem? (i := 468) (by decide +kernel), List.mem_of_getElem? (i := 577) (by decide +kernel), List.mem_of_getElem? (i := 578) (by decide +kernel)⟩
theorem lw_p30 : lw_okq (⟨"WriteOnceVaultModel", "tree", "(II)I"⟩, 19) := ⟨⟨by decide +kernel, by decide +kernel⟩, List.mem_of_getElem? (i := 468) (by decide +kernel), List.mem_of_getElem? (i := 614) (by decide +kernel), List.mem_of_getElem? (i := 615) (by decide +kernel)⟩
theorem lw_p31 : lw_okq (⟨"WriteOnceVaultModel", "wayToLeaf", "(II)V"⟩, 19) := ⟨⟨by decide +kernel, by decide +kernel⟩, List.mem_of_getElem? (i := 468) (by decide +kernel), List.mem_of_getElem? (i := 625) (by decide +kernel), List.mem_of_getElem? (i := 626) (by decide +kernel)⟩
def lw_privs_2 : List (MethodName × Nat) := [(⟨"WriteOnceVault", "digestOnTheWay", "(I)J"⟩, 9), (⟨"WriteOnceVault$Descent", "stepOf", "(I)I"⟩, 7), (⟨"WriteOnceVault$Catalog", "isSoundNext", "(LWriteOnceVault$Image;II)Z"⟩, 6), (⟨"WriteOnceVault$Catalog", "isWellFormed", "(LWriteOnceVault$Image;I)Z"⟩, 6), (⟨"WriteOnceVault", "wipeWhatIsNotSound", "()V"⟩, 9), (⟨"WriteOnceVaultModel", "refusal", "(III)I"⟩, 19), (⟨"WriteOnceVaultModel", "goThrough", "()V"⟩, 19), (⟨"WriteOnceVaultModel", "soundNext", "(II)Z"⟩, 19), (⟨"WriteOnceVaultModel", "leaf", "(I)I"⟩, 19), (⟨"WriteOnceVaultModel", "rule", "(IIII)I"⟩, 19), (⟨"WriteOnceVaultModel", "apply", "(III)V"⟩, 19), (⟨"WriteOnceVaultModel", "write", "(II)V"⟩, 19), (⟨"WriteOnceVaultModel", "enroll", "(IIIII)V"⟩, 19), (⟨"WriteOnceVaultModel", "plain", "(III)I"⟩, 19), (⟨"WriteOnceVaultModel", "tree", "(II)I"⟩, 19), (⟨"WriteOnceVaultModel", "wayToLeaf", "(II)V"⟩, 19)]
theorem lw_r2 : ∀ q ∈ lw_privs_2, lw_okq q := List.forall_mem_cons.mpr ⟨lw_p16, List.forall_mem_cons.mpr ⟨lw_p17, List.forall_mem_cons.mpr ⟨lw_p18, List.forall_mem_cons.mpr ⟨lw_p19, List.forall_mem_cons.mpr ⟨lw_p20, List.forall_mem_cons.mpr ⟨lw_p21, List.forall_mem_cons.mpr ⟨lw_p22, List.forall_mem_cons.mpr ⟨lw_p23, List.forall_mem_cons.mpr ⟨lw_p24, List.forall_mem_cons.mpr ⟨lw_p25, List.forall_mem_cons.mpr ⟨lw_p26, List.forall_mem_cons.mpr ⟨lw_p27, List.forall_mem_cons.mpr ⟨lw_p28, List.forall_mem_cons.mpr ⟨lw_p29, List.forall_mem_cons.mpr ⟨lw_p30, List.forall_mem_cons.mpr ⟨lw_p31, fun _ h => absurd h List.not_mem_nil⟩⟩⟩⟩⟩⟩⟩⟩⟩⟩⟩⟩⟩⟩⟩⟩
theorem lw_p32 : lw_okq (⟨"WriteOnceVaultModel", "step", "(IIZ)V"⟩, 19) := ⟨⟨by decide +kernel, by decide +kernel⟩, List.mem_of_getElem? (i := 468) (by decide +kernel), List.mem_of_getElem? (i := 632) (by decide +kernel), List.mem_of_getElem? (i := 633) (by decide +kernel)⟩
theorem lw_p33 : lw_okq (⟨"WriteOnceVaultModel", "digest", "(I)J"⟩, 19) := ⟨⟨by decide +kernel, by decide +kernel⟩, List.mem_of_getElem? (i := 468) (by decide +kernel), List.mem_of_getElem? (i := 636) (by decide +kernel), List.mem_of_getElem? (i := 637) (by decide +kernel)⟩
theorem lw_p34 : lw_okq (⟨"WriteOnceVaultModel", "wayToEnd", "(II)V"⟩, 19) := ⟨⟨by decide +kernel, by decide +kernel⟩, List.mem_of_getElem? (i := 468) (by decide +kernel), List.mem_of_getElem? (i := 644) (by decide +kernel), List.mem_of_getElem? (i := 645) (by decide +kernel)⟩
def lw_privs_3 : List (MethodName × Nat) := [(⟨"WriteOnceVaultModel", "step", "(IIZ)V"⟩, 19), (⟨"WriteOnceVaultModel", "digest", "(I)J"⟩, 19), (⟨"WriteOnceVaultModel", "wayToEnd", "(II)V"⟩, 19)]
theorem lw_r3 : ∀ q ∈ lw_privs_3, lw_okq q := List.forall_mem_cons.mpr ⟨lw_p32, List.forall_mem_cons.mpr ⟨lw_p33, List.forall_mem_cons.mpr ⟨lw_p34, fun _ h => absurd h List.not_mem_nil⟩⟩⟩
def lw_privs : List (MethodName × Nat) := lw_privs_1 ++ (lw_privs_2 ++ (lw_privs_3))
def lw_tbl : List Cond := k2_sels lw_privs ++ tables_1
theorem lw_privs_ok : ∀ q ∈ lw_privs, lw_okq q := by
  show ∀ q ∈ lw_privs_1 ++ (lw_privs_2 ++ (lw_privs_3)), lw_okq q
  exact List.forall_mem_append.mpr ⟨lw_r1, List.forall_mem_append.mpr ⟨lw_r2, lw_r3⟩⟩
/-! names: classes, fields, methods -/
def rn_C : String := "WriteOnceVault$Catalog"
def tn_C : u_T := fun k => match k with
  | 0 => ("WriteOnceVault$Catalog", "state", "[I", true)
  | 1 => ("WriteOnceVault$Catalog", "date", "[I", true)
  | 2 => ("WriteOnceVault$Catalog", "holds", "[I", true)
  | 3 => ("WriteOnceVault$Catalog", "putRecord", "[I", true)
  | 4 => ("WriteOnceVault$Catalog", "objects", "I", false)
  | _ => ("WriteOnceVault$Catalog", "entered", "I", false)
def tt_C : Nat → FieldType := fun k => match k with
  | 0 => .array .int
  | 1 => .array .int
  | 2 => .array .int
  | 3 => .array .int
  | 4 => .int
  | _ => .int
theorem nd_C : ∀ a, a < 6 → ∀ b, b < 6 → a ≠ b → (tn_C a).2.1 ≠ (tn_C b).2.1 := by decide +kernel
theorem to_C : ∀ k, k < 6 → parseFieldDescriptor (tn_C k).2.2.1 = some (tt_C k) := by decide +kernel
def rn_E : String := "WriteOnceVault$Descent"
def tn_E : u_T := fun k => match k with
  | 0 => ("WriteOnceVault$Descent", "wentRight", "[Z", true)
  | 1 => ("WriteOnceVault$Descent", "sideFirst", "[I", true)
  | 2 => ("WriteOnceVault$Descent", "sideCount", "[I", true)
  | 3 => ("WriteOnceVault$Descent", "steps", "I", false)
  | 4 => ("WriteOnceVault$Descent", "footFirst", "I", false)
  | 5 => ("WriteOnceVault$Descent", "footCount", "I", false)
  | _ => ("WriteOnceVault$Descent", "footIsShown", "Z", false)
def tt_E : Nat → FieldType := fun k => match k with
  | 0 => .array .boolean
  | 1 => .array .int
  | 2 => .array .int
  | 3 => .int
  | 4 => .int
  | 5 => .int
  | _ => .boolean
theorem nd_E : ∀ a, a < 7 → ∀ b, b < 7 → a ≠ b → (tn_E a).2.1 ≠ (tn_E b).2.1 := by decide +kernel
theorem to_E : ∀ k, k < 7 → parseFieldDescriptor (tn_E k).2.2.1 = some (tt_E k) := by decide +kernel
def rn_F : String := "WriteOnceVault$FedWords"
def tn_F : u_T := fun k => match k with
  | 0 => ("WriteOnceVault$FedWords", "fed", "[I", true)
  | _ => ("WriteOnceVault$FedWords", "count", "I", false)
def tt_F : Nat → FieldType := fun k => match k with
  | 0 => .array .int
  | _ => .int
theorem nd_F : ∀ a, a < 2 → ∀ b, b < 2 → a ≠ b → (tn_F a).2.1 ≠ (tn_F b).2.1 := by decide +kernel
theorem to_F : ∀ k, k < 2 → parseFieldDescriptor (tn_F k).2.2.1 = some (tt_F k) := by decide +kernel
def rn_G : String := "WriteOnceVault$Image"
def tn_G : u_T := fun k => match k with
  | 0 => ("WriteOnceVault$Image", "words", "[I", true)
  | _ => ("WriteOnceVault$Image", "level", "[I", true)
def tt_G : Nat → FieldType := fun k => match k with
  | 0 => .array .int
  | _ => .array .int
theorem nd_G : ∀ a, a < 2 → ∀ b, b < 2 → a ≠ b → (tn_G a).2.1 ≠ (tn_G b).2.1 := by decide +kernel
theorem to_G : ∀ k, k < 2 → parseFieldDescriptor (tn_G k).2.2.1 = some (tt_G k) := by decide +kernel
def rn_X : String := "WriteOnceVault"
def tn_X : u_T := fun k => match k with
  | 0 => ("WriteOnceVault", "image", "LWriteOnceVault$Image;", true)
  | 1 => ("WriteOnceVault", "catalog", "LWriteOnceVault$Catalog;", true)
  | 2 => ("WriteOnceVault", "auditCatalog", "LWriteOnceVault$Catalog;", true)
  | 3 => ("WriteOnceVault", "descent", "LWriteOnceVault$Descent;", true)
  | 4 => ("WriteOnceVault", "fedWords", "LWriteOnceVault$FedWords;", true)
  | 5 => ("WriteOnceVault", "draft", "[I", true)
  | 6 => ("WriteOnceVault", "clock", "I", false)
  | 7 => ("WriteOnceVault", "powered", "Z", false)
  | _ => ("WriteOnceVault", "wordsBeforeCut", "I", false)
def tt_X : Nat → FieldType := fun k => match k with
  | 0 => .object "WriteOnceVault$Image"
  | 1 => .object "WriteOnceVault$Catalog"
  | 2 => .object "WriteOnceVault$Catalog"
  | 3 => .object "WriteOnceVault$Descent"
  | 4 => .object "WriteOnceVault$FedWords"
  | 5 => .array .int
  | 6 => .int
  | 7 => .boolean
  | _ => .int
theorem nd_X : ∀ a, a < 9 → ∀ b, b < 9 → a ≠ b → (tn_X a).2.1 ≠ (tn_X b).2.1 := by decide +kernel
theorem to_X : ∀ k, k < 9 → parseFieldDescriptor (tn_X k).2.2.1 = some (tt_X k) := by decide +kernel
def rn_M : String := "WriteOnceVaultModel"
def tn_M : u_T := fun k => match k with
  | 0 => ("WriteOnceVaultModel", "image", "[I", false)
  | 1 => ("WriteOnceVaultModel", "clock", "I", false)
  | 2 => ("WriteOnceVaultModel", "on", "Z", false)
  | 3 => ("WriteOnceVaultModel", "left", "I", false)
  | 4 => ("WriteOnceVaultModel", "fed", "[I", false)
  | 5 => ("WriteOnceVaultModel", "feeds", "I", false)
  | 6 => ("WriteOnceVaultModel", "sound", "I", false)
  | 7 => ("WriteOnceVaultModel", "objects", "I", false)
  | 8 => ("WriteOnceVaultModel", "state", "[I", false)
  | 9 => ("WriteOnceVaultModel", "date", "[I", false)
  | 10 => ("WriteOnceVaultModel", "holds", "[I", false)
  | 11 => ("WriteOnceVaultModel", "steps", "I", false)
  | 12 => ("WriteOnceVaultModel", "otherFrom", "[I", false)
  | 13 => ("WriteOnceVaultModel", "otherCount", "[I", false)
  | 14 => ("WriteOnceVaultModel", "right", "[Z", false)
  | 15 => ("WriteOnceVaultModel", "endFrom", "I", false)
  | 16 => ("WriteOnceVaultModel", "endCount", "I", false)
  | 17 => ("WriteOnceVaultModel", "full", "Z", false)
  | _ => ("WriteOnceVaultModel", "level", "[I", false)
def tt_M : Nat → FieldType := fun k => match k with
  | 0 => .array .int
  | 1 => .int
  | 2 => .boolean
  | 3 => .int
  | 4 => .array .int
  | 5 => .int
  | 6 => .int
  | 7 => .int
  | 8 => .array .int
  | 9 => .array .int
  | 10 => .array .int
  | 11 => .int
  | 12 => .array .int
  | 13 => .array .int
  | 14 => .array .boolean
  | 15 => .int
  | 16 => .int
  | 17 => .boolean
  | _ => .array .int
theorem nd_M : ∀ a, a < 19 → ∀ b, b < 19 → a ≠ b → (tn_M a).2.1 ≠ (tn_M b).2.1 := by decide +kernel
theorem to_M : ∀ k, k < 19 → parseFieldDescriptor (tn_M k).2.2.1 = some (tt_M k) := by decide +kernel
abbrev vwCl : List vw_C := [(rn_C, tn_C, 6), (rn_E, tn_E, 7), (rn_F, tn_F, 2), (rn_G, tn_G, 2), (rn_X, tn_X, 9), (rn_M, tn_M, 19)]
abbrev cn_X_init : ByteArray := prog_1_method_1_code
abbrev yn_X_init : MethodName := ⟨"WriteOnceVault", "<init>", "()V"⟩
abbrev cn_G_init : ByteArray := prog_6_method_1_code
abbrev yn_G_init : MethodName := ⟨"WriteOnceVault$Image", "<init>", "()V"⟩
abbrev cn_C_init : ByteArray := prog_2_method_1_code
abbrev yn_C_init : MethodName := ⟨"WriteOnceVault$Catalog", "<init>", "()V"⟩
abbrev cn_E_init : ByteArray := prog_3_method_1_code
abbrev yn_E_init : MethodName := ⟨"WriteOnceVault$Descent", "<init>", "()V"⟩
abbrev cn_F_init : ByteArray := prog_5_method_1_code
abbrev yn_F_init : MethodName := ⟨"WriteOnceVault$FedWords", "<init>", "()V"⟩
abbrev cn_X_put : ByteArray := prog_1_method_2_code
abbrev yn_X_put : MethodName := ⟨"WriteOnceVault", "put", "(IIII)I"⟩
abbrev cn_C_nextId : ByteArray := prog_2_method_3_code
abbrev yn_C_nextId : MethodName := ⟨"WriteOnceVault$Catalog", "nextId", "()I"⟩
abbrev cn_X_refusalOf : ByteArray := prog_1_method_22_code
abbrev yn_X_refusalOf : MethodName := ⟨"WriteOnceVault", "refusalOf", "(III)I"⟩
abbrev cn_C_verdict : ByteArray := prog_2_method_11_code
abbrev yn_C_verdict : MethodName := ⟨"WriteOnceVault$Catalog", "verdict", "(IIII)I"⟩
abbrev cn_C_verdictOfKind : ByteArray := prog_2_method_12_code
abbrev yn_C_verdictOfKind : MethodName := ⟨"WriteOnceVault$Catalog", "verdictOfKind", "(IIII)I"⟩
abbrev cn_C_putVerdict : ByteArray := prog_2_method_13_code
abbrev yn_C_putVerdict : MethodName := ⟨"WriteOnceVault$Catalog", "putVerdict", "(II)I"⟩
abbrev cn_C_isDate : ByteArray := prog_2_method_17_code
abbrev yn_C_isDate : MethodName := ⟨"WriteOnceVault$Catalog", "isDate", "(I)Z"⟩
abbrev cn_C_extendVerdict : ByteArray := prog_2_method_14_code
abbrev yn_C_extendVerdict : MethodName := ⟨"WriteOnceVault$Catalog", "extendVerdict", "(II)I"⟩
abbrev cn_C_isThere : ByteArray := prog_2_method_4_code
abbrev yn_C_isThere : MethodName := ⟨"WriteOnceVault$Catalog", "isThere", "(I)Z"⟩
abbrev cn_C_holdVerdict : ByteArray := prog_2_method_15_code
abbrev yn_C_holdVerdict : MethodName := ⟨"WriteOnceVault$Catalog", "holdVerdict", "(IIZ)I"⟩
abbrev cn_C_stateOf : ByteArray := prog_2_method_7_code
abbrev yn_C_stateOf : MethodName := ⟨"WriteOnceVault$Catalog", "stateOf", "(I)I"⟩
abbrev cn_C_endVerdict : ByteArray := prog_2_method_16_code
abbrev yn_C_endVerdict : MethodName := ⟨"WriteOnceVault$Catalog", "endVerdict", "(IZI)I"⟩
abbrev cn_H_pad : ByteArray := prog_4_method_4_code
abbrev yn_H_pad : MethodName := ⟨"WriteOnceVault$Digests", "pad", "(III)I"⟩
abbrev cn_H_mix : ByteArray := prog_4_method_2_code
abbrev yn_H_mix : MethodName := ⟨"WriteOnceVault$Digests", "mix", "(II)I"⟩
abbrev cn_J_rotateLeft : ByteArray := prog_9_method_50_code
abbrev yn_J_rotateLeft : MethodName := ⟨"java/lang/Integer", "rotateLeft", "(II)I"⟩
abbrev cn_X_draftRecord : ByteArray := prog_1_method_24_code
abbrev yn_X_draftRecord : MethodName := ⟨"WriteOnceVault", "draftRecord", "(IIIII)V"⟩
abbrev cn_H_leafAt : ByteArray := prog_4_method_5_code
abbrev yn_H_leafAt : MethodName := ⟨"WriteOnceVault$Digests", "leafAt", "([II)I"⟩
abbrev cn_G_keyPlace : ByteArray := prog_6_method_4_code
abbrev yn_G_keyPlace : MethodName := ⟨"WriteOnceVault$Image", "keyPlace", "(I)I"⟩
abbrev cn_X_writeWord : ByteArray := prog_1_method_26_code
abbrev yn_X_writeWord : MethodName := ⟨"WriteOnceVault", "writeWord", "(II)Z"⟩
abbrev cn_G_store : ByteArray := prog_6_method_6_code
abbrev yn_G_store : MethodName := ⟨"WriteOnceVault$Image", "store", "(II)V"⟩
abbrev cn_G_hasPlace : ByteArray := prog_6_method_2_code
abbrev yn_G_hasPlace : MethodName := ⟨"WriteOnceVault$Image", "hasPlace", "(I)Z"⟩
abbrev cn_X_writeDraft : ByteArray := prog_1_method_25_code
abbrev yn_X_writeDraft : MethodName := ⟨"WriteOnceVault", "writeDraft", "()Z"⟩
abbrev cn_C_recordCount : ByteArray := prog_2_method_2_code
abbrev yn_C_recordCount : MethodName := ⟨"WriteOnceVault$Catalog", "recordCount", "()I"⟩
abbrev cn_G_recordPlace : ByteArray := prog_6_method_3_code
abbrev yn_G_recordPlace : MethodName := ⟨"WriteOnceVault$Image", "recordPlace", "(I)I"⟩
abbrev cn_C_enter : ByteArray := prog_2_method_18_code
abbrev yn_C_enter : MethodName := ⟨"WriteOnceVault$Catalog", "enter", "(III)V"⟩
abbrev cn_C_addObject : ByteArray := prog_2_method_19_code
abbrev yn_C_addObject : MethodName := ⟨"WriteOnceVault$Catalog", "addObject", "(I)V"⟩
abbrev cn_C_changeObject : ByteArray := prog_2_method_20_code
abbrev yn_C_changeObject : MethodName := ⟨"WriteOnceVault$Catalog", "changeObject", "(III)V"⟩
abbrev cn_X_extend : ByteArray := prog_1_method_3_code
abbrev yn_X_extend : MethodName := ⟨"WriteOnceVault", "extend", "(II)I"⟩
abbrev cn_X_change : ByteArray := prog_1_method_23_code
abbrev yn_X_change : MethodName := ⟨"WriteOnceVault", "change", "(III)I"⟩
abbrev cn_X_hold : ByteArray := prog_1_method_4_code
abbrev yn_X_hold : MethodName := ⟨"WriteOnceVault", "hold", "(IIZ)I"⟩
abbrev cn_X_delete : ByteArray := prog_1_method_5_code
abbrev yn_X_delete : MethodName := ⟨"WriteOnceVault", "delete", "(I)I"⟩
abbrev cn_X_shred : ByteArray := prog_1_method_6_code
abbrev yn_X_shred : MethodName := ⟨"WriteOnceVault", "shred", "(I)I"⟩
abbrev cn_X_tick : ByteArray := prog_1_method_7_code
abbrev yn_X_tick : MethodName := ⟨"WriteOnceVault", "tick", "(I)I"⟩
abbrev cn_X_get : ByteArray := prog_1_method_8_code
abbrev yn_X_get : MethodName := ⟨"WriteOnceVault", "get", "(II)J"⟩
abbrev cn_C_isLive : ByteArray := prog_2_method_5_code
abbrev yn_C_isLive : MethodName := ⟨"WriteOnceVault$Catalog", "isLive", "(I)Z"⟩
abbrev cn_C_putRecordOf : ByteArray := prog_2_method_10_code
abbrev yn_C_putRecordOf : MethodName := ⟨"WriteOnceVault$Catalog", "putRecordOf", "(I)I"⟩
abbrev cn_G_field : ByteArray := prog_6_method_7_code
abbrev yn_G_field : MethodName := ⟨"WriteOnceVault$Image", "field", "(II)I"⟩
abbrev cn_G_read : ByteArray := prog_6_method_5_code
abbrev yn_G_read : MethodName := ⟨"WriteOnceVault$Image", "read", "(I)I"⟩
abbrev cn_X_look : ByteArray := prog_1_method_9_code
abbrev yn_X_look : MethodName := ⟨"WriteOnceVault", "look", "(II)I"⟩
abbrev cn_C_dateOf : ByteArray := prog_2_method_8_code
abbrev yn_C_dateOf : MethodName := ⟨"WriteOnceVault$Catalog", "dateOf", "(I)I"⟩
abbrev cn_C_holdsOf : ByteArray := prog_2_method_9_code
abbrev yn_C_holdsOf : MethodName := ⟨"WriteOnceVault$Catalog", "holdsOf", "(I)I"⟩
abbrev cn_X_records : ByteArray := prog_1_method_10_code
abbrev yn_X_records : MethodName := ⟨"WriteOnceVault", "records", "()I"⟩
abbrev cn_X_root : ByteArray := prog_1_method_11_code
abbrev yn_X_root : MethodName := ⟨"WriteOnceVault", "root", "(I)J"⟩
abbrev cn_G_rootOf : ByteArray := prog_6_method_10_code
abbrev yn_G_rootOf : MethodName := ⟨"WriteOnceVault$Image", "rootOf", "(I)I"⟩
abbrev cn_G_tree : ByteArray := prog_6_method_11_code
abbrev yn_G_tree : MethodName := ⟨"WriteOnceVault$Image", "tree", "(II)I"⟩
abbrev cn_G_leaf : ByteArray := prog_6_method_13_code
abbrev yn_G_leaf : MethodName := ⟨"WriteOnceVault$Image", "leaf", "(I)I"⟩
abbrev cn_G_joinNeighbours : ByteArray := prog_6_method_12_code
abbrev yn_G_joinNeighbours : MethodName := ⟨"WriteOnceVault$Image", "joinNeighbours", "(I)V"⟩
abbrev cn_H_node : ByteArray := prog_4_method_3_code
abbrev yn_H_node : MethodName := ⟨"WriteOnceVault$Digests", "node", "(II)I"⟩
abbrev cn_X_path : ByteArray := prog_1_method_12_code
abbrev yn_X_path : MethodName := ⟨"WriteOnceVault", "path", "(III)J"⟩
abbrev cn_E_toLeaf : ByteArray := prog_3_method_2_code
abbrev yn_E_toLeaf : MethodName := ⟨"WriteOnceVault$Descent", "toLeaf", "(II)V"⟩
abbrev cn_E_goDown : ByteArray := prog_3_method_4_code
abbrev yn_E_goDown : MethodName := ⟨"WriteOnceVault$Descent", "goDown", "(IIZ)V"⟩
abbrev cn_E_stepTowards : ByteArray := prog_3_method_5_code
abbrev yn_E_stepTowards : MethodName := ⟨"WriteOnceVault$Descent", "stepTowards", "(II)V"⟩
abbrev cn_J_highestOneBit : ByteArray := prog_9_method_45_code
abbrev yn_J_highestOneBit : MethodName := ⟨"java/lang/Integer", "highestOneBit", "(I)I"⟩
abbrev cn_J_numberOfLeadingZeros : ByteArray := prog_9_method_47_code
abbrev yn_J_numberOfLeadingZeros : MethodName := ⟨"java/lang/Integer", "numberOfLeadingZeros", "(I)I"⟩
abbrev cn_X_digestOnTheWay : ByteArray := prog_1_method_28_code
abbrev yn_X_digestOnTheWay : MethodName := ⟨"WriteOnceVault", "digestOnTheWay", "(I)J"⟩
abbrev cn_E_digestCount : ByteArray := prog_3_method_7_code
abbrev yn_E_digestCount : MethodName := ⟨"WriteOnceVault$Descent", "digestCount", "()I"⟩
abbrev cn_E_firstUnder : ByteArray := prog_3_method_8_code
abbrev yn_E_firstUnder : MethodName := ⟨"WriteOnceVault$Descent", "firstUnder", "(I)I"⟩
abbrev cn_E_stepOf : ByteArray := prog_3_method_11_code
abbrev yn_E_stepOf : MethodName := ⟨"WriteOnceVault$Descent", "stepOf", "(I)I"⟩
abbrev cn_E_countUnder : ByteArray := prog_3_method_9_code
abbrev yn_E_countUnder : MethodName := ⟨"WriteOnceVault$Descent", "countUnder", "(I)I"⟩
abbrev cn_X_bridge : ByteArray := prog_1_method_13_code
abbrev yn_X_bridge : MethodName := ⟨"WriteOnceVault", "bridge", "(III)J"⟩
abbrev cn_E_toEdge : ByteArray := prog_3_method_3_code
abbrev yn_E_toEdge : MethodName := ⟨"WriteOnceVault$Descent", "toEdge", "(II)V"⟩
abbrev cn_X_feed : ByteArray := prog_1_method_14_code
abbrev yn_X_feed : MethodName := ⟨"WriteOnceVault", "feed", "(I)Z"⟩
abbrev cn_F_add : ByteArray := prog_5_method_2_code
abbrev yn_F_add : MethodName := ⟨"WriteOnceVault$FedWords", "add", "(I)Z"⟩
abbrev cn_X_included : ByteArray := prog_1_method_15_code
abbrev yn_X_included : MethodName := ⟨"WriteOnceVault", "included", "(III)Z"⟩
abbrev cn_F_proveLeaf : ByteArray := prog_5_method_4_code
abbrev yn_F_proveLeaf : MethodName := ⟨"WriteOnceVault$FedWords", "proveLeaf", "(LWriteOnceVault$Descent;I)Z"⟩
abbrev cn_E_wentRightAbove : ByteArray := prog_3_method_10_code
abbrev yn_E_wentRightAbove : MethodName := ⟨"WriteOnceVault$Descent", "wentRightAbove", "(I)Z"⟩
abbrev cn_F_clear : ByteArray := prog_5_method_3_code
abbrev yn_F_clear : MethodName := ⟨"WriteOnceVault$FedWords", "clear", "()V"⟩
abbrev cn_X_extended : ByteArray := prog_1_method_16_code
abbrev yn_X_extended : MethodName := ⟨"WriteOnceVault", "extended", "(IIII)Z"⟩
abbrev cn_F_proveGrowth : ByteArray := prog_5_method_5_code
abbrev yn_F_proveGrowth : MethodName := ⟨"WriteOnceVault$FedWords", "proveGrowth", "(LWriteOnceVault$Descent;II)Z"⟩
abbrev cn_E_showsFoot : ByteArray := prog_3_method_6_code
abbrev yn_E_showsFoot : MethodName := ⟨"WriteOnceVault$Descent", "showsFoot", "()Z"⟩
abbrev cn_X_word : ByteArray := prog_1_method_17_code
abbrev yn_X_word : MethodName := ⟨"WriteOnceVault", "word", "(I)J"⟩
abbrev cn_X_alter : ByteArray := prog_1_method_18_code
abbrev yn_X_alter : MethodName := ⟨"WriteOnceVault", "alter", "(II)Z"⟩
abbrev cn_X_power : ByteArray := prog_1_method_19_code
abbrev yn_X_power : MethodName := ⟨"WriteOnceVault", "power", "(Z)I"⟩
abbrev cn_C_replay : ByteArray := prog_2_method_21_code
abbrev yn_C_replay : MethodName := ⟨"WriteOnceVault$Catalog", "replay", "(LWriteOnceVault$Image;I)V"⟩
abbrev cn_C_isSoundNext : ByteArray := prog_2_method_22_code
abbrev yn_C_isSoundNext : MethodName := ⟨"WriteOnceVault$Catalog", "isSoundNext", "(LWriteOnceVault$Image;II)Z"⟩
abbrev cn_G_checkIsRight : ByteArray := prog_6_method_8_code
abbrev yn_G_checkIsRight : MethodName := ⟨"WriteOnceVault$Image", "checkIsRight", "(I)Z"⟩
abbrev cn_C_isTimely : ByteArray := prog_2_method_23_code
abbrev yn_C_isTimely : MethodName := ⟨"WriteOnceVault$Catalog", "isTimely", "(LWriteOnceVault$Image;II)Z"⟩
abbrev cn_C_isWellFormed : ByteArray := prog_2_method_24_code
abbrev yn_C_isWellFormed : MethodName := ⟨"WriteOnceVault$Catalog", "isWellFormed", "(LWriteOnceVault$Image;I)Z"⟩
abbrev cn_X_wipeWhatIsNotSound : ByteArray := prog_1_method_27_code
abbrev yn_X_wipeWhatIsNotSound : MethodName := ⟨"WriteOnceVault", "wipeWhatIsNotSound", "()V"⟩
abbrev cn_G_wipeRecordsFrom : ByteArray := prog_6_method_9_code
abbrev yn_G_wipeRecordsFrom : MethodName := ⟨"WriteOnceVault$Image", "wipeRecordsFrom", "(I)V"⟩
abbrev cn_C_mayKeepKey : ByteArray := prog_2_method_6_code
abbrev yn_C_mayKeepKey : MethodName := ⟨"WriteOnceVault$Catalog", "mayKeepKey", "(I)Z"⟩
abbrev cn_X_cut : ByteArray := prog_1_method_20_code
abbrev yn_X_cut : MethodName := ⟨"WriteOnceVault", "cut", "(I)Z"⟩
abbrev cn_X_audit : ByteArray := prog_1_method_21_code
abbrev yn_X_audit : MethodName := ⟨"WriteOnceVault", "audit", "(II)I"⟩
abbrev cn_M_init : ByteArray := prog_8_method_1_code
abbrev yn_M_init : MethodName := ⟨"WriteOnceVaultModel", "<init>", "()V"⟩
abbrev cn_M_put : ByteArray := prog_8_method_18_code
abbrev yn_M_put : MethodName := ⟨"WriteOnceVaultModel", "put", "(IIII)I"⟩
abbrev cn_M_refusal : ByteArray := prog_8_method_16_code
abbrev yn_M_refusal : MethodName := ⟨"WriteOnceVaultModel", "refusal", "(III)I"⟩
abbrev cn_M_goThrough : ByteArray := prog_8_method_14_code
abbrev yn_M_goThrough : MethodName := ⟨"WriteOnceVaultModel", "goThrough", "()V"⟩
abbrev cn_M_soundNext : ByteArray := prog_8_method_13_code
abbrev yn_M_soundNext : MethodName := ⟨"WriteOnceVaultModel", "soundNext", "(II)Z"⟩
abbrev cn_M_leaf : ByteArray := prog_8_method_4_code
abbrev yn_M_leaf : MethodName := ⟨"WriteOnceVaultModel", "leaf", "(I)I"⟩
abbrev cn_M_mix : ByteArray := prog_8_method_2_code
abbrev yn_M_mix : MethodName := ⟨"WriteOnceVaultModel", "mix", "(II)I"⟩
abbrev cn_M_rule : ByteArray := prog_8_method_11_code
abbrev yn_M_rule : MethodName := ⟨"WriteOnceVaultModel", "rule", "(IIII)I"⟩
abbrev cn_M_apply : ByteArray := prog_8_method_12_code
abbrev yn_M_apply : MethodName := ⟨"WriteOnceVaultModel", "apply", "(III)V"⟩
abbrev cn_M_write : ByteArray := prog_8_method_15_code
abbrev yn_M_write : MethodName := ⟨"WriteOnceVaultModel", "write", "(II)V"⟩
abbrev cn_M_enroll : ByteArray := prog_8_method_17_code
abbrev yn_M_enroll : MethodName := ⟨"WriteOnceVaultModel", "enroll", "(IIIII)V"⟩
abbrev cn_M_extend : ByteArray := prog_8_method_20_code
abbrev yn_M_extend : MethodName := ⟨"WriteOnceVaultModel", "extend", "(II)I"⟩
abbrev cn_M_plain : ByteArray := prog_8_method_19_code
abbrev yn_M_plain : MethodName := ⟨"WriteOnceVaultModel", "plain", "(III)I"⟩
abbrev cn_M_hold : ByteArray := prog_8_method_21_code
abbrev yn_M_hold : MethodName := ⟨"WriteOnceVaultModel", "hold", "(IIZ)I"⟩
abbrev cn_M_delete : ByteArray := prog_8_method_22_code
abbrev yn_M_delete : MethodName := ⟨"WriteOnceVaultModel", "delete", "(I)I"⟩
abbrev cn_M_shred : ByteArray := prog_8_method_23_code
abbrev yn_M_shred : MethodName := ⟨"WriteOnceVaultModel", "shred", "(I)I"⟩
abbrev cn_M_tick : ByteArray := prog_8_method_24_code
abbrev yn_M_tick : MethodName := ⟨"WriteOnceVaultModel", "tick", "(I)I"⟩
abbrev cn_M_get : ByteArray := prog_8_method_25_code
abbrev yn_M_get : MethodName := ⟨"WriteOnceVaultModel", "get", "(II)J"⟩
abbrev cn_M_look : ByteArray := prog_8_method_26_code
abbrev yn_M_look : MethodName := ⟨"WriteOnceVaultModel", "look", "(II)I"⟩
abbrev cn_M_records : ByteArray := prog_8_method_27_code
abbrev yn_M_records : MethodName := ⟨"WriteOnceVaultModel", "records", "()I"⟩
abbrev cn_M_root : ByteArray := prog_8_method_28_code
abbrev yn_M_root : MethodName := ⟨"WriteOnceVaultModel", "root", "(I)J"⟩
abbrev cn_M_tree : ByteArray := prog_8_method_5_code
abbrev yn_M_tree : MethodName := ⟨"WriteOnceVaultModel", "tree", "(II)I"⟩
abbrev cn_M_node : ByteArray := prog_8_method_3_code
abbrev yn_M_node : MethodName := ⟨"WriteOnceVaultModel", "node", "(II)I"⟩
abbrev cn_M_path : ByteArray := prog_8_method_29_code
abbrev yn_M_path : MethodName := ⟨"WriteOnceVaultModel", "path", "(III)J"⟩
abbrev cn_M_wayToLeaf : ByteArray := prog_8_method_8_code
abbrev yn_M_wayToLeaf : MethodName := ⟨"WriteOnceVaultModel", "wayToLeaf", "(II)V"⟩
abbrev cn_M_half : ByteArray := prog_8_method_6_code
abbrev yn_M_half : MethodName := ⟨"WriteOnceVaultModel", "half", "(I)I"⟩
abbrev cn_M_step : ByteArray := prog_8_method_7_code
abbrev yn_M_step : MethodName := ⟨"WriteOnceVaultModel", "step", "(IIZ)V"⟩
abbrev cn_M_digest : ByteArray := prog_8_method_10_code
abbrev yn_M_digest : MethodName := ⟨"WriteOnceVaultModel", "digest", "(I)J"⟩
abbrev cn_M_bridge : ByteArray := prog_8_method_30_code
abbrev yn_M_bridge : MethodName := ⟨"WriteOnceVaultModel", "bridge", "(III)J"⟩
abbrev cn_M_wayToEnd : ByteArray := prog_8_method_9_code
abbrev yn_M_wayToEnd : MethodName := ⟨"WriteOnceVaultModel", "wayToEnd", "(II)V"⟩
abbrev cn_M_feed : ByteArray := prog_8_method_31_code
abbrev yn_M_feed : MethodName := ⟨"WriteOnceVaultModel", "feed", "(I)Z"⟩
abbrev cn_M_included : ByteArray := prog_8_method_32_code
abbrev yn_M_included : MethodName := ⟨"WriteOnceVaultModel", "included", "(III)Z"⟩
abbrev cn_M_extended : ByteArray := prog_8_method_33_code
abbrev yn_M_extended : MethodName := ⟨"WriteOnceVaultModel", "extended", "(IIII)Z"⟩
abbrev cn_M_word : ByteArray := prog_8_method_34_code
abbrev yn_M_word : MethodName := ⟨"WriteOnceVaultModel", "word", "(I)J"⟩
abbrev cn_M_alter : ByteArray := prog_8_method_35_code
abbrev yn_M_alter : MethodName := ⟨"WriteOnceVaultModel", "alter", "(II)Z"⟩
abbrev cn_M_power : ByteArray := prog_8_method_36_code
abbrev yn_M_power : MethodName := ⟨"WriteOnceVaultModel", "power", "(Z)I"⟩
abbrev cn_M_cut : ByteArray := prog_8_method_37_code
abbrev yn_M_cut : MethodName := ⟨"WriteOnceVaultModel", "cut", "(I)Z"⟩
abbrev cn_M_audit : ByteArray := prog_8_method_38_code
abbrev yn_M_audit : MethodName := ⟨"WriteOnceVaultModel", "audit", "(II)I"⟩
abbrev cn_L_law : ByteArray := code
abbrev yn_L_law : MethodName := ⟨"WriteOnceVaultLaw", "law", "([I)Z"⟩
abbrev yn_O_init : MethodName := ⟨"java/lang/Object", "<init>", "()V"⟩
abbrev cn_O_init : ByteArray := object_method_1_code
