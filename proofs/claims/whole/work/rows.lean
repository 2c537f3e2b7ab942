section
-- ===== PART A: goes FIRST, ahead of the names: the tables' words, and 'selects' of the private methods out of them =====
/-- a private method of a class that the tables say can be made, by its rows of tables_1 -/
def lw_okq (q : MethodName × Nat) : Prop := (q.1.cls ≠ "java/lang/invoke/MethodHandle" ∧ q.1.cls ≠ "java/lang/invoke/VarHandle") ∧ Cond.instantiable q.1.cls q.2 ∈ tables_1 ∧ Cond.privateMethod q.1 ∈ tables_1 ∧ Cond.instanceMethod q.1 ∈ tables_1
theorem lw_p0 : lw_okq (⟨"WriteOnceVault", "refusalOf", "(III)I"⟩, 9) := ⟨⟨by decide +kernel, by decide +kernel⟩, List.mem_of_getElem? (i := 10) (by decide +kernel), List.mem_of_getElem? (i := 135) (by decide +kernel), List.mem_of_getElem? (i := 136) (by decide +kernel)⟩
theorem lw_p1 : lw_okq (⟨"WriteOnceVault$Catalog", "verdictOfKind", "(IIII)I"⟩, 6) := ⟨⟨by decide +kernel, by decide +kernel⟩, List.mem_of_getElem? (i := 32) (by decide +kernel), List.mem_of_getElem? (i := 143) (by decide +kernel), List.mem_of_getElem? (i := 144) (by decide +kernel)⟩
theorem lw_p2 : lw_okq (⟨"WriteOnceVault$Catalog", "putVerdict", "(II)I"⟩, 6) := ⟨⟨by decide +kernel, by decide +kernel⟩, List.mem_of_getElem? (i := 32) (by decide +kernel), List.mem_of_getElem? (i := 147) (by decide +kernel), List.mem_of_getElem? (i := 148) (by decide +kernel)⟩
theorem lw_p3 : lw_okq (⟨"WriteOnceVault$Catalog", "extendVerdict", "(II)I"⟩, 6) := ⟨⟨by decide +kernel, by decide +kernel⟩, List.mem_of_getElem? (i := 32) (by decide +kernel), List.mem_of_getElem? (i := 155) (by decide +kernel), List.mem_of_getElem? (i := 156) (by decide +kernel)⟩
theorem lw_p4 : lw_okq (⟨"WriteOnceVault$Catalog", "holdVerdict", "(IIZ)I"⟩, 6) := ⟨⟨by decide +kernel, by decide +kernel⟩, List.mem_of_getElem? (i := 32) (by decide +kernel), List.mem_of_getElem? (i := 163) (by decide +kernel), List.mem_of_getElem? (i := 164) (by decide +kernel)⟩
theorem lw_p5 : lw_okq (⟨"WriteOnceVault$Catalog", "endVerdict", "(IZI)I"⟩, 6) := ⟨⟨by decide +kernel, by decide +kernel⟩, List.mem_of_getElem? (i := 32) (by decide +kernel), List.mem_of_getElem? (i := 171) (by decide +kernel), List.mem_of_getElem? (i := 172) (by decide +kernel)⟩
theorem lw_p6 : lw_okq (⟨"WriteOnceVault", "draftRecord", "(IIIII)V"⟩, 9) := ⟨⟨by decide +kernel, by decide +kernel⟩, List.mem_of_getElem? (i := 10) (by decide +kernel), List.mem_of_getElem? (i := 185) (by decide +kernel), List.mem_of_getElem? (i := 186) (by decide +kernel)⟩
theorem lw_p7 : lw_okq (⟨"WriteOnceVault", "writeWord", "(II)Z"⟩, 9) := ⟨⟨by decide +kernel, by decide +kernel⟩, List.mem_of_getElem? (i := 10) (by decide +kernel), List.mem_of_getElem? (i := 195) (by decide +kernel), List.mem_of_getElem? (i := 196) (by decide +kernel)⟩
theorem lw_p8 : lw_okq (⟨"WriteOnceVault", "writeDraft", "()Z"⟩, 9) := ⟨⟨by decide +kernel, by decide +kernel⟩, List.mem_of_getElem? (i := 10) (by decide +kernel), List.mem_of_getElem? (i := 206) (by decide +kernel), List.mem_of_getElem? (i := 207) (by decide +kernel)⟩
theorem lw_p9 : lw_okq (⟨"WriteOnceVault$Catalog", "addObject", "(I)V"⟩, 6) := ⟨⟨by decide +kernel, by decide +kernel⟩, List.mem_of_getElem? (i := 32) (by decide +kernel), List.mem_of_getElem? (i := 221) (by decide +kernel), List.mem_of_getElem? (i := 222) (by decide +kernel)⟩
theorem lw_p10 : lw_okq (⟨"WriteOnceVault$Catalog", "changeObject", "(III)V"⟩, 6) := ⟨⟨by decide +kernel, by decide +kernel⟩, List.mem_of_getElem? (i := 32) (by decide +kernel), List.mem_of_getElem? (i := 225) (by decide +kernel), List.mem_of_getElem? (i := 226) (by decide +kernel)⟩
theorem lw_p11 : lw_okq (⟨"WriteOnceVault", "change", "(III)I"⟩, 9) := ⟨⟨by decide +kernel, by decide +kernel⟩, List.mem_of_getElem? (i := 10) (by decide +kernel), List.mem_of_getElem? (i := 233) (by decide +kernel), List.mem_of_getElem? (i := 234) (by decide +kernel)⟩
theorem lw_p12 : lw_okq (⟨"WriteOnceVault$Image", "leaf", "(I)I"⟩, 2) := ⟨⟨by decide +kernel, by decide +kernel⟩, List.mem_of_getElem? (i := 18) (by decide +kernel), List.mem_of_getElem? (i := 306) (by decide +kernel), List.mem_of_getElem? (i := 307) (by decide +kernel)⟩
theorem lw_p13 : lw_okq (⟨"WriteOnceVault$Image", "joinNeighbours", "(I)V"⟩, 2) := ⟨⟨by decide +kernel, by decide +kernel⟩, List.mem_of_getElem? (i := 18) (by decide +kernel), List.mem_of_getElem? (i := 311) (by decide +kernel), List.mem_of_getElem? (i := 312) (by decide +kernel)⟩
theorem lw_p14 : lw_okq (⟨"WriteOnceVault$Descent", "goDown", "(IIZ)V"⟩, 7) := ⟨⟨by decide +kernel, by decide +kernel⟩, List.mem_of_getElem? (i := 57) (by decide +kernel), List.mem_of_getElem? (i := 326) (by decide +kernel), List.mem_of_getElem? (i := 327) (by decide +kernel)⟩
theorem lw_p15 : lw_okq (⟨"WriteOnceVault$Descent", "stepTowards", "(II)V"⟩, 7) := ⟨⟨by decide +kernel, by decide +kernel⟩, List.mem_of_getElem? (i := 57) (by decide +kernel), List.mem_of_getElem? (i := 330) (by decide +kernel), List.mem_of_getElem? (i := 331) (by decide +kernel)⟩
def lw_privs_1 : List (MethodName × Nat) := [(⟨"WriteOnceVault", "refusalOf", "(III)I"⟩, 9), (⟨"WriteOnceVault$Catalog", "verdictOfKind", "(IIII)I"⟩, 6), (⟨"WriteOnceVault$Catalog", "putVerdict", "(II)I"⟩, 6), (⟨"WriteOnceVault$Catalog", "extendVerdict", "(II)I"⟩, 6), (⟨"WriteOnceVault$Catalog", "holdVerdict", "(IIZ)I"⟩, 6), (⟨"WriteOnceVault$Catalog", "endVerdict", "(IZI)I"⟩, 6), (⟨"WriteOnceVault", "draftRecord", "(IIIII)V"⟩, 9), (⟨"WriteOnceVault", "writeWord", "(II)Z"⟩, 9), (⟨"WriteOnceVault", "writeDraft", "()Z"⟩, 9), (⟨"WriteOnceVault$Catalog", "addObject", "(I)V"⟩, 6), (⟨"WriteOnceVault$Catalog", "changeObject", "(III)V"⟩, 6), (⟨"WriteOnceVault", "change", "(III)I"⟩, 9), (⟨"WriteOnceVault$Image", "leaf", "(I)I"⟩, 2), (⟨"WriteOnceVault$Image", "joinNeighbours", "(I)V"⟩, 2), (⟨"WriteOnceVault$Descent", "goDown", "(IIZ)V"⟩, 7), (⟨"WriteOnceVault$Descent", "stepTowards", "(II)V"⟩, 7)]
theorem lw_r1 : ∀ q ∈ lw_privs_1, lw_okq q := List.forall_mem_cons.mpr ⟨lw_p0, List.forall_mem_cons.mpr ⟨lw_p1, List.forall_mem_cons.mpr ⟨lw_p2, List.forall_mem_cons.mpr ⟨lw_p3, List.forall_mem_cons.mpr ⟨lw_p4, List.forall_mem_cons.mpr ⟨lw_p5, List.forall_mem_cons.mpr ⟨lw_p6, List.forall_mem_cons.mpr ⟨lw_p7, List.forall_mem_cons.mpr ⟨lw_p8, List.forall_mem_cons.mpr ⟨lw_p9, List.forall_mem_cons.mpr ⟨lw_p10, List.forall_mem_cons.mpr ⟨lw_p11, List.forall_mem_cons.mpr ⟨lw_p12, List.forall_mem_cons.mpr ⟨lw_p13, List.forall_mem_cons.mpr ⟨lw_p14, List.forall_mem_cons.mpr ⟨lw_p15, fun _ h => absurd h List.not_mem_nil⟩⟩⟩⟩⟩⟩⟩⟩⟩⟩⟩⟩⟩⟩⟩⟩
theorem lw_p16 : lw_okq (⟨"WriteOnceVault", "digestOnTheWay", "(I)J"⟩, 9) := ⟨⟨by decide +kernel, by decide +kernel⟩, List.mem_of_getElem? (i := 10) (by decide +kernel), List.mem_of_getElem? (i := 342) (by decide +kernel), List.mem_of_getElem? (i := 343) (by decide +kernel)⟩
theorem lw_p17 : lw_okq (⟨"WriteOnceVault$Descent", "stepOf", "(I)I"⟩, 7) := ⟨⟨by decide +kernel, by decide +kernel⟩, List.mem_of_getElem? (i := 57) (by decide +kernel), List.mem_of_getElem? (i := 354) (by decide +kernel), List.mem_of_getElem? (i := 355) (by decide +kernel)⟩
theorem lw_p18 : lw_okq (⟨"WriteOnceVault$Catalog", "isSoundNext", "(LWriteOnceVault$Image;II)Z"⟩, 6) := ⟨⟨by decide +kernel, by decide +kernel⟩, List.mem_of_getElem? (i := 32) (by decide +kernel), List.mem_of_getElem? (i := 427) (by decide +kernel), List.mem_of_getElem? (i := 428) (by decide +kernel)⟩
theorem lw_p19 : lw_okq (⟨"WriteOnceVault$Catalog", "isWellFormed", "(LWriteOnceVault$Image;I)Z"⟩, 6) := ⟨⟨by decide +kernel, by decide +kernel⟩, List.mem_of_getElem? (i := 32) (by decide +kernel), List.mem_of_getElem? (i := 440) (by decide +kernel), List.mem_of_getElem? (i := 441) (by decide +kernel)⟩
theorem lw_p20 : lw_okq (⟨"WriteOnceVault", "wipeWhatIsNotSound", "()V"⟩, 9) := ⟨⟨by decide +kernel, by decide +kernel⟩, List.mem_of_getElem? (i := 10) (by decide +kernel), List.mem_of_getElem? (i := 447) (by decide +kernel), List.mem_of_getElem? (i := 448) (by decide +kernel)⟩
theorem lw_p21 : lw_okq (⟨"WriteOnceVaultModel", "refusal", "(III)I"⟩, 19) := ⟨⟨by decide +kernel, by decide +kernel⟩, List.mem_of_getElem? (i := 468) (by decide +kernel), List.mem_of_getElem? (i := 536) (by decide +kernel), List.mem_of_getElem? (i := 537) (by decide +kernel)⟩
theorem lw_p22 : lw_okq (⟨"WriteOnceVaultModel", "goThrough", "()V"⟩, 19) := ⟨⟨by decide +kernel, by decide +kernel⟩, List.mem_of_getElem? (i := 468) (by decide +kernel), List.mem_of_getElem? (i := 540) (by decide +kernel), List.mem_of_getElem? (i := 541) (by decide +kernel)⟩
theorem lw_p23 : lw_okq (⟨"WriteOnceVaultModel", "soundNext", "(II)Z"⟩, 19) := ⟨⟨by decide +kernel, by decide +kernel⟩, List.mem_of_getElem? (i := 468) (by decide +kernel), List.mem_of_getElem? (i := 544) (by decide +kernel), List.mem_of_getElem? (i := 545) (by decide +kernel)⟩
theorem lw_p24 : lw_okq (⟨"WriteOnceVaultModel", "leaf", "(I)I"⟩, 19) := ⟨⟨by decide +kernel, by decide +kernel⟩, List.mem_of_getElem? (i := 468) (by decide +kernel), List.mem_of_getElem? (i := 548) (by decide +kernel), List.mem_of_getElem? (i := 549) (by decide +kernel)⟩
theorem lw_p25 : lw_okq (⟨"WriteOnceVaultModel", "rule", "(IIII)I"⟩, 19) := ⟨⟨by decide +kernel, by decide +kernel⟩, List.mem_of_getElem? (i := 468) (by decide +kernel), List.mem_of_getElem? (i := 556) (by decide +kernel), List.mem_of_getElem? (i := 557) (by decide +kernel)⟩
theorem lw_p26 : lw_okq (⟨"WriteOnceVaultModel", "apply", "(III)V"⟩, 19) := ⟨⟨by decide +kernel, by decide +kernel⟩, List.mem_of_getElem? (i := 468) (by decide +kernel), List.mem_of_getElem? (i := 561) (by decide +kernel), List.mem_of_getElem? (i := 562) (by decide +kernel)⟩
theorem lw_p27 : lw_okq (⟨"WriteOnceVaultModel", "write", "(II)V"⟩, 19) := ⟨⟨by decide +kernel, by decide +kernel⟩, List.mem_of_getElem? (i := 468) (by decide +kernel), List.mem_of_getElem? (i := 565) (by decide +kernel), List.mem_of_getElem? (i := 566) (by decide +kernel)⟩
theorem lw_p28 : lw_okq (⟨"WriteOnceVaultModel", "enroll", "(IIIII)V"⟩, 19) := ⟨⟨by decide +kernel, by decide +kernel⟩, List.mem_of_getElem? (i := 468) (by decide +kernel), List.mem_of_getElem? (i := 569) (by decide +kernel), List.mem_of_getElem? (i := 570) (by decide +kernel)⟩
theorem lw_p29 : lw_okq (⟨"WriteOnceVaultModel", "plain", "(III)I"⟩, 19) := ⟨⟨by decide +kernel, by decide +kernel⟩, List.mem_of_getElem? (i := 468) (by decide +kernel), List.mem_of_getElem? (i := 577) (by decide +kernel), List.mem_of_getElem? (i := 578) (by decide +kernel)⟩
theorem lw_p30 : lw_okq (⟨"WriteOnceVaultModel", "tree", "(II)I"⟩, 19) := ⟨⟨by decide +kernel, by decide +kernel⟩, List.mem_of_getElem? (i := 468) (by decide +kernel), List.mem_of_getElem? (i := 614) (by decide +kernel), List.mem_of_getElem? (i := 615) (by decide +kernel)⟩
theorem lw_p31 : lw_okq (⟨"WriteOnceVaultModel", "wayToLeaf", "(II)V"⟩, 19) := ⟨⟨by decide +kernel, by decide +kernel⟩, List.mem_of_getElem? (i := 468) (by decide +kernel), List.mem_of_getElem? (i := 625) (by decide +kernel), List.mem_of_getElem? (i := 626) (by decide +kernel)⟩
def lw_privs_2 : List (MethodName × Nat) := [(⟨"WriteOnceVault", "digestOnTheWay", "(I)J"⟩, 9), (⟨"WriteOnceVault$Descent", "stepOf", "(I)I"⟩, 7), (⟨"WriteOnceVault$Catalog", "isSoundNext", "(LWriteOnceVault$Image;II)Z"⟩, 6), (⟨"WriteOnceVault$Catalog", "isWellFormed", "(LWriteOnceVault$Image;I)Z"⟩, 6), (⟨"WriteOnceVault", "wipeWhatIsNotSound", "()V"⟩, 9), (⟨"WriteOnceVaultModel", "refusal", "(III)I"⟩, 19), (⟨"WriteOnceVaultModel", "goThrough", "()V"⟩, 19), (⟨"WriteOnceVaultModel", "soundNext", "(II)Z"⟩, 19), (⟨"WriteOnceVaultModel", "leaf", "(I)I"⟩, 19), (⟨"WriteOnceVaultModel", "rule", "(IIII)I"⟩, 19), (⟨"WriteOnceVaultModel", "apply", "(III)V"⟩, 19), (⟨"WriteOnceVaultModel", "write", "(II)V"⟩, 19), (⟨"WriteOnceVaultModel", "enroll", "(IIIII)V"⟩, 19), (⟨"WriteOnceVaultModel", "plain", "(III)I"⟩, 19), (⟨"WriteOnceVaultModel", "tree", "(II)I"⟩, 19), (⟨"WriteOnceVaultModel", "wayToLeaf", "(II)V"⟩, 19)]
theorem lw_r2 : ∀ q ∈ lw_privs_2, lw_okq q := List.forall_mem_cons.mpr ⟨lw_p16, List.forall_mem_cons.mpr ⟨lw_p17, List.forall_mem_cons.mpr ⟨lw_p18, List.forall_mem_cons.mpr ⟨lw_p19, List.forall_mem_cons.mpr ⟨lw_p20, List.forall_mem_cons.mpr ⟨lw_p21, List.forall_mem_cons.mpr ⟨lw_p22, List.forall_mem_cons.mpr ⟨lw_p23, List.forall_mem_cons.mpr ⟨lw_p24, List.forall_mem_cons.mpr ⟨lw_p25, List.forall_mem_cons.mpr ⟨lw_p26, List.forall_mem_cons.mpr ⟨lw_p27, List.forall_mem_cons.mpr ⟨lw_p28, List.forall_mem_cons.mpr ⟨lw_p29, List.forall_mem_cons.mpr ⟨lw_p30, List.forall_mem_cons.mpr ⟨lw_p31, fun _ h => absurd h List.not_mem_nil⟩⟩⟩⟩⟩⟩⟩⟩⟩⟩⟩⟩⟩⟩⟩⟩
theorem lw_p32 : lw_okq (⟨"WriteOnceVaultModel", "step", "(IIZ)V"⟩, 19) := ⟨⟨by decide +kernel, by decide +kernel⟩, List.mem_of_getElem? (i := 468) (by decide +kernel), List.mem_of_getElem? (i := 632) (by decide +kernel), List.mem_of_getElem? (i := 633) (by decide +kernel)⟩
theorem lw_p33 : lw_okq (⟨"WriteOnceVaultModel", "digest", "(I)J"⟩, 19) := ⟨⟨by decide +kernel, by decide +kernel⟩, List.mem_of_getElem? (i := 468) (by decide +kernel), List.mem_of_getElem? (i := 636) (by decide +kernel), List.mem_of_getElem? (i := 637) (by decide +kernel)⟩
theorem lw_p34 : lw_okq (⟨"WriteOnceVaultModel", "wayToEnd", "(II)V"⟩, 19) := ⟨⟨by decide +kernel, by decide +kernel⟩, List.mem_of_getElem? (i := 468) (by decide +kernel), List.mem_of_getElem? (i := 644) (by decide +kernel), List.mem_of_getElem? (i := 645) (by decide +kernel)⟩
def lw_privs_3 : List (MethodName × Nat) := [(⟨"WriteOnceVaultModel", "step", "(IIZ)V"⟩, 19), (⟨"WriteOnceVaultModel", "digest", "(I)J"⟩, 19), (⟨"WriteOnceVaultModel", "wayToEnd", "(II)V"⟩, 19)]
theorem lw_r3 : ∀ q ∈ lw_privs_3, lw_okq q := List.forall_mem_cons.mpr ⟨lw_p32, List.forall_mem_cons.mpr ⟨lw_p33, List.forall_mem_cons.mpr ⟨lw_p34, fun _ h => absurd h List.not_mem_nil⟩⟩⟩
def lw_privs : List (MethodName × Nat) := lw_privs_1 ++ (lw_privs_2 ++ (lw_privs_3))
def lw_tbl : List Cond := k2_sels lw_privs ++ tables_1
theorem lw_privs_ok : ∀ q ∈ lw_privs, lw_okq q := by
  show ∀ q ∈ lw_privs_1 ++ (lw_privs_2 ++ (lw_privs_3)), lw_okq q
  exact List.forall_mem_append.mpr ⟨lw_r1, List.forall_mem_append.mpr ⟨lw_r2, lw_r3⟩⟩
/-! names: classes, fields, methods -/
def rn_C : String := "WriteOnceVault$Catalog"
def tn_C : u_T := fun k => match k with
  | 0 => ("WriteOnceVault$Catalog", "state", "[I", true)
  | 1 => ("WriteOnceVault$Catalog", "date", "[I", true)
  | 2 => ("WriteOnceVault$Catalog", "holds", "[I", true)
  | 3 => ("WriteOnceVault$Catalog", "putRecord", "[I", true)
  | 4 => ("WriteOnceVault$Catalog", "objects", "I", false)
  | _ => ("WriteOnceVault$Catalog", "entered", "I", false)
def tt_C : Nat → FieldType := fun k => match k with
  | 0 => .array .int
  | 1 => .array .int
  | 2 => .array .int
  | 3 => .array .int
  | 4 => .int
  | _ => .int
theorem nd_C : ∀ a, a < 6 → ∀ b, b < 6 → a ≠ b → (tn_C a).2.1 ≠ (tn_C b).2.1 := by decide +kernel
theorem to_C : ∀ k, k < 6 → parseFieldDescriptor (tn_C k).2.2.1 = some (tt_C k) := by decide +kernel
def rn_E : String := "WriteOnceVault$Descent"
def tn_E : u_T := fun k => match k with
  | 0 => ("WriteOnceVault$Descent", "wentRight", "[Z", true)
  | 1 => ("WriteOnceVault$Descent", "sideFirst", "[I", true)
  | 2 => ("WriteOnceVault$Descent", "sideCount", "[I", true)
  | 3 => ("WriteOnceVault$Descent", "steps", "I", false)
  | 4 => ("WriteOnceVault$Descent", "footFirst", "I", false)
  | 5 => ("WriteOnceVault$Descent", "footCount", "I", false)
  | _ => ("WriteOnceVault$Descent", "footIsShown", "Z", false)
def tt_E : Nat → FieldType := fun k => match k with
  | 0 => .array .boolean
  | 1 => .array .int
  | 2 => .array .int
  | 3 => .int
  | 4 => .int
  | 5 => .int
  | _ => .boolean
theorem nd_E : ∀ a, a < 7 → ∀ b, b < 7 → a ≠ b → (tn_E a).2.1 ≠ (tn_E b).2.1 := by decide +kernel
theorem to_E : ∀ k, k < 7 → parseFieldDescriptor (tn_E k).2.2.1 = some (tt_E k) := by decide +kernel
def rn_F : String := "WriteOnceVault$FedWords"
def tn_F : u_T := fun k => match k with
  | 0 => ("WriteOnceVault$FedWords", "fed", "[I", true)
  | _ => ("WriteOnceVault$FedWords", "count", "I", false)
def tt_F : Nat → FieldType := fun k => match k with
  | 0 => .array .int
  | _ => .int
theorem nd_F : ∀ a, a < 2 → ∀ b, b < 2 → a ≠ b → (tn_F a).2.1 ≠ (tn_F b).2.1 := by decide +kernel
theorem to_F : ∀ k, k < 2 → parseFieldDescriptor (tn_F k).2.2.1 = some (tt_F k) := by decide +kernel
def rn_G : String := "WriteOnceVault$Image"
def tn_G : u_T := fun k => match k with
  | 0 => ("WriteOnceVault$Image", "words", "[I", true)
  | _ => ("WriteOnceVault$Image", "level", "[I", true)
def tt_G : Nat → FieldType := fun k => match k with
  | 0 => .array .int
  | _ => .array .int
theorem nd_G : ∀ a, a < 2 → ∀ b, b < 2 → a ≠ b → (tn_G a).2.1 ≠ (tn_G b).2.1 := by decide +kernel
theorem to_G : ∀ k, k < 2 → parseFieldDescriptor (tn_G k).2.2.1 = some (tt_G k) := by decide +kernel
def rn_X : String := "WriteOnceVault"
def tn_X : u_T := fun k => match k with
  | 0 => ("WriteOnceVault", "image", "LWriteOnceVault$Image;", true)
  | 1 => ("WriteOnceVault", "catalog", "LWriteOnceVault$Catalog;", true)
  | 2 => ("WriteOnceVault", "auditCatalog", "LWriteOnceVault$Catalog;", true)
  | 3 => ("WriteOnceVault", "descent", "LWriteOnceVault$Descent;", true)
  | 4 => ("WriteOnceVault", "fedWords", "LWriteOnceVault$FedWords;", true)
  | 5 => ("WriteOnceVault", "draft", "[I", true)
  | 6 => ("WriteOnceVault", "clock", "I", false)
  | 7 => ("WriteOnceVault", "powered", "Z", false)
  | _ => ("WriteOnceVault", "wordsBeforeCut", "I", false)
def tt_X : Nat → FieldType := fun k => match k with
  | 0 => .object "WriteOnceVault$Image"
  | 1 => .object "WriteOnceVault$Catalog"
  | 2 => .object "WriteOnceVault$Catalog"
  | 3 => .object "WriteOnceVault$Descent"
  | 4 => .object "WriteOnceVault$FedWords"
  | 5 => .array .int
  | 6 => .int
  | 7 => .boolean
  | _ => .int
theorem nd_X : ∀ a, a < 9 → ∀ b, b < 9 → a ≠ b → (tn_X a).2.1 ≠ (tn_X b).2.1 := by decide +kernel
theorem to_X : ∀ k, k < 9 → parseFieldDescriptor (tn_X k).2.2.1 = some (tt_X k) := by decide +kernel
def rn_M : String := "WriteOnceVaultModel"
def tn_M : u_T := fun k => match k with
  | 0 => ("WriteOnceVaultModel", "image", "[I", false)
  | 1 => ("WriteOnceVaultModel", "clock", "I", false)
  | 2 => ("WriteOnceVaultModel", "on", "Z", false)
  | 3 => ("WriteOnceVaultModel", "left", "I", false)
  | 4 => ("WriteOnceVaultModel", "fed", "[I", false)
  | 5 => ("WriteOnceVaultModel", "feeds", "I", false)
  | 6 => ("WriteOnceVaultModel", "sound", "I", false)
  | 7 => ("WriteOnceVaultModel", "objects", "I", false)
  | 8 => ("WriteOnceVaultModel", "state", "[I", false)
  | 9 => ("WriteOnceVaultModel", "date", "[I", false)
  | 10 => ("WriteOnceVaultModel", "holds", "[I", false)
  | 11 => ("WriteOnceVaultModel", "steps", "I", false)
  | 12 => ("WriteOnceVaultModel", "otherFrom", "[I", false)
  | 13 => ("WriteOnceVaultModel", "otherCount", "[I", false)
  | 14 => ("WriteOnceVaultModel", "right", "[Z", false)
  | 15 => ("WriteOnceVaultModel", "endFrom", "I", false)
  | 16 => ("WriteOnceVaultModel", "endCount", "I", false)
  | 17 => ("WriteOnceVaultModel", "full", "Z", false)
  | _ => ("WriteOnceVaultModel", "level", "[I", false)
def tt_M : Nat → FieldType := fun k => match k with
  | 0 => .array .int
  | 1 => .int
  | 2 => .boolean
  | 3 => .int
  | 4 => .array .int
  | 5 => .int
  | 6 => .int
  | 7 => .int
  | 8 => .array .int
  | 9 => .array .int
  | 10 => .array .int
  | 11 => .int
  | 12 => .array .int
  | 13 => .array .int
  | 14 => .array .boolean
  | 15 => .int
  | 16 => .int
  | 17 => .boolean
  | _ => .array .int
theorem nd_M : ∀ a, a < 19 → ∀ b, b < 19 → a ≠ b → (tn_M a).2.1 ≠ (tn_M b).2.1 := by decide +kernel
theorem to_M : ∀ k, k < 19 → parseFieldDescriptor (tn_M k).2.2.1 = some (tt_M k) := by decide +kernel
abbrev vwCl : List vw_C := [(rn_C, tn_C, 6), (rn_E, tn_E, 7), (rn_F, tn_F, 2), (rn_G, tn_G, 2), (rn_X, tn_X, 9), (rn_M, tn_M, 19)]
abbrev cn_X_init : ByteArray := prog_1_method_1_code
abbrev yn_X_init : MethodName := ⟨"WriteOnceVault", "<init>", "()V"⟩
abbrev cn_G_init : ByteArray := prog_6_method_1_code
abbrev yn_G_init : MethodName := ⟨"WriteOnceVault$Image", "<init>", "()V"⟩
abbrev cn_C_init : ByteArray := prog_2_method_1_code
abbrev yn_C_init : MethodName := ⟨"WriteOnceVault$Catalog", "<init>", "()V"⟩
abbrev cn_E_init : ByteArray := prog_3_method_1_code
abbrev yn_E_init : MethodName := ⟨"WriteOnceVault$Descent", "<init>", "()V"⟩
abbrev cn_F_init : ByteArray := prog_5_method_1_code
abbrev yn_F_init : MethodName := ⟨"WriteOnceVault$FedWords", "<init>", "()V"⟩
abbrev cn_X_put : ByteArray := prog_1_method_2_code
abbrev yn_X_put : MethodName := ⟨"WriteOnceVault", "put", "(IIII)I"⟩
abbrev cn_C_nextId : ByteArray := prog_2_method_3_code
abbrev yn_C_nextId : MethodName := ⟨"WriteOnceVault$Catalog", "nextId", "()I"⟩
abbrev cn_X_refusalOf : ByteArray := prog_1_method_22_code
abbrev yn_X_refusalOf : MethodName := ⟨"WriteOnceVault", "refusalOf", "(III)I"⟩
abbrev cn_C_verdict : ByteArray := prog_2_method_11_code
abbrev yn_C_verdict : MethodName := ⟨"WriteOnceVault$Catalog", "verdict", "(IIII)I"⟩
abbrev cn_C_verdictOfKind : ByteArray := prog_2_method_12_code
abbrev yn_C_verdictOfKind : MethodName := ⟨"WriteOnceVault$Catalog", "verdictOfKind", "(IIII)I"⟩
abbrev cn_C_putVerdict : ByteArray := prog_2_method_13_code
abbrev yn_C_putVerdict : MethodName := ⟨"WriteOnceVault$Catalog", "putVerdict", "(II)I"⟩
abbrev cn_C_isDate : ByteArray := prog_2_method_17_code
abbrev yn_C_isDate : MethodName := ⟨"WriteOnceVault$Catalog", "isDate", "(I)Z"⟩
abbrev cn_C_extendVerdict : ByteArray := prog_2_method_14_code
abbrev yn_C_extendVerdict : MethodName := ⟨"WriteOnceVault$Catalog", "extendVerdict", "(II)I"⟩
abbrev cn_C_isThere : ByteArray := prog_2_method_4_code
abbrev yn_C_isThere : MethodName := ⟨"WriteOnceVault$Catalog", "isThere", "(I)Z"⟩
abbrev cn_C_holdVerdict : ByteArray := prog_2_method_15_code
abbrev yn_C_holdVerdict : MethodName := ⟨"WriteOnceVault$Catalog", "holdVerdict", "(IIZ)I"⟩
abbrev cn_C_stateOf : ByteArray := prog_2_method_7_code
abbrev yn_C_stateOf : MethodName := ⟨"WriteOnceVault$Catalog", "stateOf", "(I)I"⟩
abbrev cn_C_endVerdict : ByteArray := prog_2_method_16_code
abbrev yn_C_endVerdict : MethodName := ⟨"WriteOnceVault$Catalog", "endVerdict", "(IZI)I"⟩
abbrev cn_H_pad : ByteArray := prog_4_method_4_code
abbrev yn_H_pad : MethodName := ⟨"WriteOnceVault$Digests", "pad", "(III)I"⟩
abbrev cn_H_mix : ByteArray := prog_4_method_2_code
abbrev yn_H_mix : MethodName := ⟨"WriteOnceVault$Digests", "mix", "(II)I"⟩
abbrev cn_J_rotateLeft : ByteArray := prog_9_method_50_code
abbrev yn_J_rotateLeft : MethodName := ⟨"java/lang/Integer", "rotateLeft", "(II)I"⟩
abbrev cn_X_draftRecord : ByteArray := prog_1_method_24_code
abbrev yn_X_draftRecord : MethodName := ⟨"WriteOnceVault", "draftRecord", "(IIIII)V"⟩
abbrev cn_H_leafAt : ByteArray := prog_4_method_5_code
abbrev yn_H_leafAt : MethodName := ⟨"WriteOnceVault$Digests", "leafAt", "([II)I"⟩
abbrev cn_G_keyPlace : ByteArray := prog_6_method_4_code
abbrev yn_G_keyPlace : MethodName := ⟨"WriteOnceVault$Image", "keyPlace", "(I)I"⟩
abbrev cn_X_writeWord : ByteArray := prog_1_method_26_code
abbrev yn_X_writeWord : MethodName := ⟨"WriteOnceVault", "writeWord", "(II)Z"⟩
abbrev cn_G_store : ByteArray := prog_6_method_6_code
abbrev yn_G_store : MethodName := ⟨"WriteOnceVault$Image", "store", "(II)V"⟩
abbrev cn_G_hasPlace : ByteArray := prog_6_method_2_code
abbrev yn_G_hasPlace : MethodName := ⟨"WriteOnceVault$Image", "hasPlace", "(I)Z"⟩
abbrev cn_X_writeDraft : ByteArray := prog_1_method_25_code
abbrev yn_X_writeDraft : MethodName := ⟨"WriteOnceVault", "writeDraft", "()Z"⟩
abbrev cn_C_recordCount : ByteArray := prog_2_method_2_code
abbrev yn_C_recordCount : MethodName := ⟨"WriteOnceVault$Catalog", "recordCount", "()I"⟩
abbrev cn_G_recordPlace : ByteArray := prog_6_method_3_code
abbrev yn_G_recordPlace : MethodName := ⟨"WriteOnceVault$Image", "recordPlace", "(I)I"⟩
abbrev cn_C_enter : ByteArray := prog_2_method_18_code
abbrev yn_C_enter : MethodName := ⟨"WriteOnceVault$Catalog", "enter", "(III)V"⟩
abbrev cn_C_addObject : ByteArray := prog_2_method_19_code
abbrev yn_C_addObject : MethodName := ⟨"WriteOnceVault$Catalog", "addObject", "(I)V"⟩
abbrev cn_C_changeObject : ByteArray := prog_2_method_20_code
abbrev yn_C_changeObject : MethodName := ⟨"WriteOnceVault$Catalog", "changeObject", "(III)V"⟩
abbrev cn_X_extend : ByteArray := prog_1_method_3_code
abbrev yn_X_extend : MethodName := ⟨"WriteOnceVault", "extend", "(II)I"⟩
abbrev cn_X_change : ByteArray := prog_1_method_23_code
abbrev yn_X_change : MethodName := ⟨"WriteOnceVault", "change", "(III)I"⟩
abbrev cn_X_hold : ByteArray := prog_1_method_4_code
abbrev yn_X_hold : MethodName := ⟨"WriteOnceVault", "hold", "(IIZ)I"⟩
abbrev cn_X_delete : ByteArray := prog_1_method_5_code
abbrev yn_X_delete : MethodName := ⟨"WriteOnceVault", "delete", "(I)I"⟩
abbrev cn_X_shred : ByteArray := prog_1_method_6_code
abbrev yn_X_shred : MethodName := ⟨"WriteOnceVault", "shred", "(I)I"⟩
abbrev cn_X_tick : ByteArray := prog_1_method_7_code
abbrev yn_X_tick : MethodName := ⟨"WriteOnceVault", "tick", "(I)I"⟩
abbrev cn_X_get : ByteArray := prog_1_method_8_code
abbrev yn_X_get : MethodName := ⟨"WriteOnceVault", "get", "(II)J"⟩
abbrev cn_C_isLive : ByteArray := prog_2_method_5_code
abbrev yn_C_isLive : MethodName := ⟨"WriteOnceVault$Catalog", "isLive", "(I)Z"⟩
abbrev cn_C_putRecordOf : ByteArray := prog_2_method_10_code
abbrev yn_C_putRecordOf : MethodName := ⟨"WriteOnceVault$Catalog", "putRecordOf", "(I)I"⟩
abbrev cn_G_field : ByteArray := prog_6_method_7_code
abbrev yn_G_field : MethodName := ⟨"WriteOnceVault$Image", "field", "(II)I"⟩
abbrev cn_G_read : ByteArray := prog_6_method_5_code
abbrev yn_G_read : MethodName := ⟨"WriteOnceVault$Image", "read", "(I)I"⟩
abbrev cn_X_look : ByteArray := prog_1_method_9_code
abbrev yn_X_look : MethodName := ⟨"WriteOnceVault", "look", "(II)I"⟩
abbrev cn_C_dateOf : ByteArray := prog_2_method_8_code
abbrev yn_C_dateOf : MethodName := ⟨"WriteOnceVault$Catalog", "dateOf", "(I)I"⟩
abbrev cn_C_holdsOf : ByteArray := prog_2_method_9_code
abbrev yn_C_holdsOf : MethodName := ⟨"WriteOnceVault$Catalog", "holdsOf", "(I)I"⟩
abbrev cn_X_records : ByteArray := prog_1_method_10_code
abbrev yn_X_records : MethodName := ⟨"WriteOnceVault", "records", "()I"⟩
abbrev cn_X_root : ByteArray := prog_1_method_11_code
abbrev yn_X_root : MethodName := ⟨"WriteOnceVault", "root", "(I)J"⟩
abbrev cn_G_rootOf : ByteArray := prog_6_method_10_code
abbrev yn_G_rootOf : MethodName := ⟨"WriteOnceVault$Image", "rootOf", "(I)I"⟩
abbrev cn_G_tree : ByteArray := prog_6_method_11_code
abbrev yn_G_tree : MethodName := ⟨"WriteOnceVault$Image", "tree", "(II)I"⟩
abbrev cn_G_leaf : ByteArray := prog_6_method_13_code
abbrev yn_G_leaf : MethodName := ⟨"WriteOnceVault$Image", "leaf", "(I)I"⟩
abbrev cn_G_joinNeighbours : ByteArray := prog_6_method_12_code
abbrev yn_G_joinNeighbours : MethodName := ⟨"WriteOnceVault$Image", "joinNeighbours", "(I)V"⟩
abbrev cn_H_node : ByteArray := prog_4_method_3_code
abbrev yn_H_node : MethodName := ⟨"WriteOnceVault$Digests", "node", "(II)I"⟩
abbrev cn_X_path : ByteArray := prog_1_method_12_code
abbrev yn_X_path : MethodName := ⟨"WriteOnceVault", "path", "(III)J"⟩
abbrev cn_E_toLeaf : ByteArray := prog_3_method_2_code
abbrev yn_E_toLeaf : MethodName := ⟨"WriteOnceVault$Descent", "toLeaf", "(II)V"⟩
abbrev cn_E_goDown : ByteArray := prog_3_method_4_code
abbrev yn_E_goDown : MethodName := ⟨"WriteOnceVault$Descent", "goDown", "(IIZ)V"⟩
abbrev cn_E_stepTowards : ByteArray := prog_3_method_5_code
abbrev yn_E_stepTowards : MethodName := ⟨"WriteOnceVault$Descent", "stepTowards", "(II)V"⟩
abbrev cn_J_highestOneBit : ByteArray := prog_9_method_45_code
abbrev yn_J_highestOneBit : MethodName := ⟨"java/lang/Integer", "highestOneBit", "(I)I"⟩
abbrev cn_J_numberOfLeadingZeros : ByteArray := prog_9_method_47_code
abbrev yn_J_numberOfLeadingZeros : MethodName := ⟨"java/lang/Integer", "numberOfLeadingZeros", "(I)I"⟩
abbrev cn_X_digestOnTheWay : ByteArray := prog_1_method_28_code
abbrev yn_X_digestOnTheWay : MethodName := ⟨"WriteOnceVault", "digestOnTheWay", "(I)J"⟩
abbrev cn_E_digestCount : ByteArray := prog_3_method_7_code
abbrev yn_E_digestCount : MethodName := ⟨"WriteOnceVault$Descent", "digestCount", "()I"⟩
abbrev cn_E_firstUnder : ByteArray := prog_3_method_8_code
abbrev yn_E_firstUnder : MethodName := ⟨"WriteOnceVault$Descent", "firstUnder", "(I)I"⟩
abbrev cn_E_stepOf : ByteArray := prog_3_method_11_code
abbrev yn_E_stepOf : MethodName := ⟨"WriteOnceVault$Descent", "stepOf", "(I)I"⟩
abbrev cn_E_countUnder : ByteArray := prog_3_method_9_code
abbrev yn_E_countUnder : MethodName := ⟨"WriteOnceVault$Descent", "countUnder", "(I)I"⟩
abbrev cn_X_bridge : ByteArray := prog_1_method_13_code
abbrev yn_X_bridge : MethodName := ⟨"WriteOnceVault", "bridge", "(III)J"⟩
abbrev cn_E_toEdge : ByteArray := prog_3_method_3_code
abbrev yn_E_toEdge : MethodName := ⟨"WriteOnceVault$Descent", "toEdge", "(II)V"⟩
abbrev cn_X_feed : ByteArray := prog_1_method_14_code
abbrev yn_X_feed : MethodName := ⟨"WriteOnceVault", "feed", "(I)Z"⟩
abbrev cn_F_add : ByteArray := prog_5_method_2_code
abbrev yn_F_add : MethodName := ⟨"WriteOnceVault$FedWords", "add", "(I)Z"⟩
abbrev cn_X_included : ByteArray := prog_1_method_15_code
abbrev yn_X_included : MethodName := ⟨"WriteOnceVault", "included", "(III)Z"⟩
abbrev cn_F_proveLeaf : ByteArray := prog_5_method_4_code
abbrev yn_F_proveLeaf : MethodName := ⟨"WriteOnceVault$FedWords", "proveLeaf", "(LWriteOnceVault$Descent;I)Z"⟩
abbrev cn_E_wentRightAbove : ByteArray := prog_3_method_10_code
abbrev yn_E_wentRightAbove : MethodName := ⟨"WriteOnceVault$Descent", "wentRightAbove", "(I)Z"⟩
abbrev cn_F_clear : ByteArray := prog_5_method_3_code
abbrev yn_F_clear : MethodName := ⟨"WriteOnceVault$FedWords", "clear", "()V"⟩
abbrev cn_X_extended : ByteArray := prog_1_method_16_code
abbrev yn_X_extended : MethodName := ⟨"WriteOnceVault", "extended", "(IIII)Z"⟩
abbrev cn_F_proveGrowth : ByteArray := prog_5_method_5_code
abbrev yn_F_proveGrowth : MethodName := ⟨"WriteOnceVault$FedWords", "proveGrowth", "(LWriteOnceVault$Descent;II)Z"⟩
abbrev cn_E_showsFoot : ByteArray := prog_3_method_6_code
abbrev yn_E_showsFoot : MethodName := ⟨"WriteOnceVault$Descent", "showsFoot", "()Z"⟩
abbrev cn_X_word : ByteArray := prog_1_method_17_code
abbrev yn_X_word : MethodName := ⟨"WriteOnceVault", "word", "(I)J"⟩
abbrev cn_X_alter : ByteArray := prog_1_method_18_code
abbrev yn_X_alter : MethodName := ⟨"WriteOnceVault", "alter", "(II)Z"⟩
abbrev cn_X_power : ByteArray := prog_1_method_19_code
abbrev yn_X_power : MethodName := ⟨"WriteOnceVault", "power", "(Z)I"⟩
abbrev cn_C_replay : ByteArray := prog_2_method_21_code
abbrev yn_C_replay : MethodName := ⟨"WriteOnceVault$Catalog", "replay", "(LWriteOnceVault$Image;I)V"⟩
abbrev cn_C_isSoundNext : ByteArray := prog_2_method_22_code
abbrev yn_C_isSoundNext : MethodName := ⟨"WriteOnceVault$Catalog", "isSoundNext", "(LWriteOnceVault$Image;II)Z"⟩
abbrev cn_G_checkIsRight : ByteArray := prog_6_method_8_code
abbrev yn_G_checkIsRight : MethodName := ⟨"WriteOnceVault$Image", "checkIsRight", "(I)Z"⟩
abbrev cn_C_isTimely : ByteArray := prog_2_method_23_code
abbrev yn_C_isTimely : MethodName := ⟨"WriteOnceVault$Catalog", "isTimely", "(LWriteOnceVault$Image;II)Z"⟩
abbrev cn_C_isWellFormed : ByteArray := prog_2_method_24_code
abbrev yn_C_isWellFormed : MethodName := ⟨"WriteOnceVault$Catalog", "isWellFormed", "(LWriteOnceVault$Image;I)Z"⟩
abbrev cn_X_wipeWhatIsNotSound : ByteArray := prog_1_method_27_code
abbrev yn_X_wipeWhatIsNotSound : MethodName := ⟨"WriteOnceVault", "wipeWhatIsNotSound", "()V"⟩
abbrev cn_G_wipeRecordsFrom : ByteArray := prog_6_method_9_code
abbrev yn_G_wipeRecordsFrom : MethodName := ⟨"WriteOnceVault$Image", "wipeRecordsFrom", "(I)V"⟩
abbrev cn_C_mayKeepKey : ByteArray := prog_2_method_6_code
abbrev yn_C_mayKeepKey : MethodName := ⟨"WriteOnceVault$Catalog", "mayKeepKey", "(I)Z"⟩
abbrev cn_X_cut : ByteArray := prog_1_method_20_code
abbrev yn_X_cut : MethodName := ⟨"WriteOnceVault", "cut", "(I)Z"⟩
abbrev cn_X_audit : ByteArray := prog_1_method_21_code
abbrev yn_X_audit : MethodName := ⟨"WriteOnceVault", "audit", "(II)I"⟩
abbrev cn_M_init : ByteArray := prog_8_method_1_code
abbrev yn_M_init : MethodName := ⟨"WriteOnceVaultModel", "<init>", "()V"⟩
abbrev cn_M_put : ByteArray := prog_8_method_18_code
abbrev yn_M_put : MethodName := ⟨"WriteOnceVaultModel", "put", "(IIII)I"⟩
abbrev cn_M_refusal : ByteArray := prog_8_method_16_code
abbrev yn_M_refusal : MethodName := ⟨"WriteOnceVaultModel", "refusal", "(III)I"⟩
abbrev cn_M_goThrough : ByteArray := prog_8_method_14_code
abbrev yn_M_goThrough : MethodName := ⟨"WriteOnceVaultModel", "goThrough", "()V"⟩
abbrev cn_M_soundNext : ByteArray := prog_8_method_13_code
abbrev yn_M_soundNext : MethodName := ⟨"WriteOnceVaultModel", "soundNext", "(II)Z"⟩
abbrev cn_M_leaf : ByteArray := prog_8_method_4_code
abbrev yn_M_leaf : MethodName := ⟨"WriteOnceVaultModel", "leaf", "(I)I"⟩
abbrev cn_M_mix : ByteArray := prog_8_method_2_code
abbrev yn_M_mix : MethodName := ⟨"WriteOnceVaultModel", "mix", "(II)I"⟩
abbrev cn_M_rule : ByteArray := prog_8_method_11_code
abbrev yn_M_rule : MethodName := ⟨"WriteOnceVaultModel", "rule", "(IIII)I"⟩
abbrev cn_M_apply : ByteArray := prog_8_method_12_code
abbrev yn_M_apply : MethodName := ⟨"WriteOnceVaultModel", "apply", "(III)V"⟩
abbrev cn_M_write : ByteArray := prog_8_method_15_code
abbrev yn_M_write : MethodName := ⟨"WriteOnceVaultModel", "write", "(II)V"⟩
abbrev cn_M_enroll : ByteArray := prog_8_method_17_code
abbrev yn_M_enroll : MethodName := ⟨"WriteOnceVaultModel", "enroll", "(IIIII)V"⟩
abbrev cn_M_extend : ByteArray := prog_8_method_20_code
abbrev yn_M_extend : MethodName := ⟨"WriteOnceVaultModel", "extend", "(II)I"⟩
abbrev cn_M_plain : ByteArray := prog_8_method_19_code
abbrev yn_M_plain : MethodName := ⟨"WriteOnceVaultModel", "plain", "(III)I"⟩
abbrev cn_M_hold : ByteArray := prog_8_method_21_code
abbrev yn_M_hold : MethodName := ⟨"WriteOnceVaultModel", "hold", "(IIZ)I"⟩
abbrev cn_M_delete : ByteArray := prog_8_method_22_code
abbrev yn_M_delete : MethodName := ⟨"WriteOnceVaultModel", "delete", "(I)I"⟩
abbrev cn_M_shred : ByteArray := prog_8_method_23_code
abbrev yn_M_shred : MethodName := ⟨"WriteOnceVaultModel", "shred", "(I)I"⟩
abbrev cn_M_tick : ByteArray := prog_8_method_24_code
abbrev yn_M_tick : MethodName := ⟨"WriteOnceVaultModel", "tick", "(I)I"⟩
abbrev cn_M_get : ByteArray := prog_8_method_25_code
abbrev yn_M_get : MethodName := ⟨"WriteOnceVaultModel", "get", "(II)J"⟩
abbrev cn_M_look : ByteArray := prog_8_method_26_code
abbrev yn_M_look : MethodName := ⟨"WriteOnceVaultModel", "look", "(II)I"⟩
abbrev cn_M_records : ByteArray := prog_8_method_27_code
abbrev yn_M_records : MethodName := ⟨"WriteOnceVaultModel", "records", "()I"⟩
abbrev cn_M_root : ByteArray := prog_8_method_28_code
abbrev yn_M_root : MethodName := ⟨"WriteOnceVaultModel", "root", "(I)J"⟩
abbrev cn_M_tree : ByteArray := prog_8_method_5_code
abbrev yn_M_tree : MethodName := ⟨"WriteOnceVaultModel", "tree", "(II)I"⟩
abbrev cn_M_node : ByteArray := prog_8_method_3_code
abbrev yn_M_node : MethodName := ⟨"WriteOnceVaultModel", "node", "(II)I"⟩
abbrev cn_M_path : ByteArray := prog_8_method_29_code
abbrev yn_M_path : MethodName := ⟨"WriteOnceVaultModel", "path", "(III)J"⟩
abbrev cn_M_wayToLeaf : ByteArray := prog_8_method_8_code
abbrev yn_M_wayToLeaf : MethodName := ⟨"WriteOnceVaultModel", "wayToLeaf", "(II)V"⟩
abbrev cn_M_half : ByteArray := prog_8_method_6_code
abbrev yn_M_half : MethodName := ⟨"WriteOnceVaultModel", "half", "(I)I"⟩
abbrev cn_M_step : ByteArray := prog_8_method_7_code
abbrev yn_M_step : MethodName := ⟨"WriteOnceVaultModel", "step", "(IIZ)V"⟩
abbrev cn_M_digest : ByteArray := prog_8_method_10_code
abbrev yn_M_digest : MethodName := ⟨"WriteOnceVaultModel", "digest", "(I)J"⟩
abbrev cn_M_bridge : ByteArray := prog_8_method_30_code
abbrev yn_M_bridge : MethodName := ⟨"WriteOnceVaultModel", "bridge", "(III)J"⟩
abbrev cn_M_wayToEnd : ByteArray := prog_8_method_9_code
abbrev yn_M_wayToEnd : MethodName := ⟨"WriteOnceVaultModel", "wayToEnd", "(II)V"⟩
abbrev cn_M_feed : ByteArray := prog_8_method_31_code
abbrev yn_M_feed : MethodName := ⟨"WriteOnceVaultModel", "feed", "(I)Z"⟩
abbrev cn_M_included : ByteArray := prog_8_method_32_code
abbrev yn_M_included : MethodName := ⟨"WriteOnceVaultModel", "included", "(III)Z"⟩
abbrev cn_M_extended : ByteArray := prog_8_method_33_code
abbrev yn_M_extended : MethodName := ⟨"WriteOnceVaultModel", "extended", "(IIII)Z"⟩
abbrev cn_M_word : ByteArray := prog_8_method_34_code
abbrev yn_M_word : MethodName := ⟨"WriteOnceVaultModel", "word", "(I)J"⟩
abbrev cn_M_alter : ByteArray := prog_8_method_35_code
abbrev yn_M_alter : MethodName := ⟨"WriteOnceVaultModel", "alter", "(II)Z"⟩
abbrev cn_M_power : ByteArray := prog_8_method_36_code
abbrev yn_M_power : MethodName := ⟨"WriteOnceVaultModel", "power", "(Z)I"⟩
abbrev cn_M_cut : ByteArray := prog_8_method_37_code
abbrev yn_M_cut : MethodName := ⟨"WriteOnceVaultModel", "cut", "(I)Z"⟩
abbrev cn_M_audit : ByteArray := prog_8_method_38_code
abbrev yn_M_audit : MethodName := ⟨"WriteOnceVaultModel", "audit", "(II)I"⟩
abbrev cn_L_law : ByteArray := code
abbrev yn_L_law : MethodName := ⟨"WriteOnceVaultLaw", "law", "([I)Z"⟩
abbrev yn_O_init : MethodName := ⟨"java/lang/Object", "<init>", "()V"⟩
abbrev cn_O_init : ByteArray := object_method_1_code
end
section
/-! the words that keep, each by its place in the tables -/
def gw_T : List Cond := lw_tbl.filter goodWord
theorem gw_in {w : Cond} (i : Nat) (h : tables_1[i]? = some w) (hg : goodWord w = true) : w ∈ gw_T := List.mem_filter.mpr ⟨List.mem_append_right _ (List.mem_of_getElem? (i := i) h), hg⟩
theorem gw_ip {w : Cond} (i : Nat) (h : (k2_sels lw_privs)[i]? = some w) (hg : goodWord w = true) : w ∈ gw_T := List.mem_filter.mpr ⟨List.mem_append_left _ (List.mem_of_getElem? (i := i) h), hg⟩
theorem gw_good {w : Cond} (h : w ∈ gw_T) : goodWord w = true := (List.mem_filter.mp h).2
theorem gw_of {args : Array Value} {s : State} (h : ∀ w ∈ lw_tbl, w.before args s = true) : ∀ w ∈ gw_T, w.before args s = true := fun w hw => h w (List.mem_filter.mp hw).1
/-- a method: its code, and all the words -/
def gw (y : MethodName) (b : ByteArray) (n : Nat) (r : Option FieldType) : List Cond := .code y b n r :: gw_T
theorem gw_GoodIn {y : MethodName} {b : ByteArray} {n : Nat} {r : Option FieldType} (h : Cond.code y b n r ∈ gw_T) : GoodIn gw_T (gw y b n r) := fun w hw => by
  rcases List.mem_cons.mp hw with rfl | hw
  · exact ⟨h, good_of_word (gw_good h)⟩
  · exact ⟨hw, good_of_word (gw_good hw)⟩
theorem mw_0 : (Cond.initialized "WriteOnceVaultLaw") ∈ gw_T := gw_in 0 (by decide +kernel) rfl
theorem mw_1 : (Cond.initialized "WriteOnceVault") ∈ gw_T := gw_in 1 (by decide +kernel) rfl
theorem mw_2 : (Cond.initialized "WriteOnceVault$Image") ∈ gw_T := gw_in 2 (by decide +kernel) rfl
theorem mw_3 : (Cond.initialized "WriteOnceVault$Catalog") ∈ gw_T := gw_in 3 (by decide +kernel) rfl
theorem mw_4 : (Cond.initialized "WriteOnceVault$Descent") ∈ gw_T := gw_in 4 (by decide +kernel) rfl
theorem mw_5 : (Cond.initialized "WriteOnceVault$FedWords") ∈ gw_T := gw_in 5 (by decide +kernel) rfl
theorem mw_6 : (Cond.initialized "WriteOnceVaultModel") ∈ gw_T := gw_in 6 (by decide +kernel) rfl
theorem mw_7 : (Cond.initialized "WriteOnceVault$Digests") ∈ gw_T := gw_in 7 (by decide +kernel) rfl
theorem mw_8 : (Cond.initialized "java/lang/Integer") ∈ gw_T := gw_in 8 (by decide +kernel) rfl
theorem mw_9 : (Cond.classLink "WriteOnceVaultLaw" 7 "WriteOnceVault") ∈ gw_T := gw_in 9 (by decide +kernel) rfl
theorem mw_10 : (Cond.instantiable "WriteOnceVault" 9) ∈ gw_T := gw_in 10 (by decide +kernel) rfl
theorem mw_11 : (Cond.methodLink "WriteOnceVaultLaw" 9 yn_X_init) ∈ gw_T := gw_in 11 (by decide +kernel) rfl
theorem mw_12 : (Cond.instanceMethod yn_X_init) ∈ gw_T := gw_in 12 (by decide +kernel) rfl
set_option maxRecDepth 20000 in
theorem mw_13 : (Cond.code yn_X_init cn_X_init 1 none) ∈ gw_T := gw_in 13 rfl rfl
theorem mw_14 : (Cond.methodLink "WriteOnceVault" 1 yn_O_init) ∈ gw_T := gw_in 14 (by decide +kernel) rfl
theorem mw_15 : (Cond.instanceMethod yn_O_init) ∈ gw_T := gw_in 15 (by decide +kernel) rfl
set_option maxRecDepth 20000 in
theorem mw_16 : (Cond.code yn_O_init cn_O_init 1 none) ∈ gw_T := gw_in 16 rfl rfl
theorem mw_17 : (Cond.classLink "WriteOnceVault" 7 "WriteOnceVault$Image") ∈ gw_T := gw_in 17 (by decide +kernel) rfl
theorem mw_18 : (Cond.instantiable "WriteOnceVault$Image" 2) ∈ gw_T := gw_in 18 (by decide +kernel) rfl
theorem mw_19 : (Cond.methodLinkNest "WriteOnceVault" 9 yn_G_init "WriteOnceVault") ∈ lw_tbl := List.mem_append_right _ (List.mem_of_getElem? (i := 19) (by decide +kernel))
theorem mw_20 : (Cond.instanceMethod yn_G_init) ∈ gw_T := gw_in 20 (by decide +kernel) rfl
set_option maxRecDepth 20000 in
theorem mw_21 : (Cond.code yn_G_init cn_G_init 1 none) ∈ gw_T := gw_in 21 rfl rfl
theorem mw_22 : (Cond.methodLink "WriteOnceVault$Image" 3 yn_O_init) ∈ gw_T := gw_in 22 (by decide +kernel) rfl
theorem mw_23 : (Cond.fieldLink "WriteOnceVault$Image" 11 "WriteOnceVault$Image" "words" "[I") ∈ gw_T := gw_in 23 (by decide +kernel) rfl
theorem mw_24 : (Cond.fieldLink "WriteOnceVault$Image" 15 "WriteOnceVault$Image" "level" "[I") ∈ gw_T := gw_in 24 (by decide +kernel) rfl
theorem mw_25 : (Cond.laysFinal "WriteOnceVault$Image" "WriteOnceVault$Image" "words" "[I") ∈ gw_T := gw_in 25 (by decide +kernel) rfl
theorem mw_27 : (Cond.laysFinal "WriteOnceVault$Image" "WriteOnceVault$Image" "level" "[I") ∈ gw_T := gw_in 27 (by decide +kernel) rfl
theorem mw_30 : (Cond.arrayClass .int) ∈ gw_T := gw_in 30 (by decide +kernel) rfl
theorem mw_31 : (Cond.classLink "WriteOnceVault" 16 "WriteOnceVault$Catalog") ∈ gw_T := gw_in 31 (by decide +kernel) rfl
theorem mw_32 : (Cond.instantiable "WriteOnceVault$Catalog" 6) ∈ gw_T := gw_in 32 (by decide +kernel) rfl
theorem mw_33 : (Cond.methodLinkNest "WriteOnceVault" 18 yn_C_init "WriteOnceVault") ∈ lw_tbl := List.mem_append_right _ (List.mem_of_getElem? (i := 33) (by decide +kernel))
theorem mw_34 : (Cond.instanceMethod yn_C_init) ∈ gw_T := gw_in 34 (by decide +kernel) rfl
set_option maxRecDepth 20000 in
theorem mw_35 : (Cond.code yn_C_init cn_C_init 1 none) ∈ gw_T := gw_in 35 rfl rfl
theorem mw_36 : (Cond.methodLink "WriteOnceVault$Catalog" 3 yn_O_init) ∈ gw_T := gw_in 36 (by decide +kernel) rfl
theorem mw_37 : (Cond.fieldLink "WriteOnceVault$Catalog" 9 "WriteOnceVault$Catalog" "state" "[I") ∈ gw_T := gw_in 37 (by decide +kernel) rfl
theorem mw_38 : (Cond.fieldLink "WriteOnceVault$Catalog" 15 "WriteOnceVault$Catalog" "date" "[I") ∈ gw_T := gw_in 38 (by decide +kernel) rfl
theorem mw_39 : (Cond.fieldLink "WriteOnceVault$Catalog" 18 "WriteOnceVault$Catalog" "holds" "[I") ∈ gw_T := gw_in 39 (by decide +kernel) rfl
theorem mw_40 : (Cond.fieldLink "WriteOnceVault$Catalog" 21 "WriteOnceVault$Catalog" "putRecord" "[I") ∈ gw_T := gw_in 40 (by decide +kernel) rfl
theorem mw_41 : (Cond.fieldLink "WriteOnceVault$Catalog" 24 "WriteOnceVault$Catalog" "objects" "I") ∈ gw_T := gw_in 41 (by decide +kernel) rfl
theorem mw_42 : (Cond.fieldLink "WriteOnceVault$Catalog" 28 "WriteOnceVault$Catalog" "entered" "I") ∈ gw_T := gw_in 42 (by decide +kernel) rfl
theorem mw_43 : (Cond.laysFinal "WriteOnceVault$Catalog" "WriteOnceVault$Catalog" "state" "[I") ∈ gw_T := gw_in 43 (by decide +kernel) rfl
theorem mw_45 : (Cond.laysFinal "WriteOnceVault$Catalog" "WriteOnceVault$Catalog" "date" "[I") ∈ gw_T := gw_in 45 (by decide +kernel) rfl
theorem mw_47 : (Cond.laysFinal "WriteOnceVault$Catalog" "WriteOnceVault$Catalog" "holds" "[I") ∈ gw_T := gw_in 47 (by decide +kernel) rfl
theorem mw_49 : (Cond.laysFinal "WriteOnceVault$Catalog" "WriteOnceVault$Catalog" "putRecord" "[I") ∈ gw_T := gw_in 49 (by decide +kernel) rfl
theorem mw_51 : (Cond.lays "WriteOnceVault$Catalog" "WriteOnceVault$Catalog" "objects" "I") ∈ gw_T := gw_in 51 (by decide +kernel) rfl
theorem mw_53 : (Cond.lays "WriteOnceVault$Catalog" "WriteOnceVault$Catalog" "entered" "I") ∈ gw_T := gw_in 53 (by decide +kernel) rfl
theorem mw_56 : (Cond.classLink "WriteOnceVault" 26 "WriteOnceVault$Descent") ∈ gw_T := gw_in 56 (by decide +kernel) rfl
theorem mw_57 : (Cond.instantiable "WriteOnceVault$Descent" 7) ∈ gw_T := gw_in 57 (by decide +kernel) rfl
theorem mw_58 : (Cond.methodLinkNest "WriteOnceVault" 28 yn_E_init "WriteOnceVault") ∈ lw_tbl := List.mem_append_right _ (List.mem_of_getElem? (i := 58) (by decide +kernel))
theorem mw_59 : (Cond.instanceMethod yn_E_init) ∈ gw_T := gw_in 59 (by decide +kernel) rfl
set_option maxRecDepth 20000 in
theorem mw_60 : (Cond.code yn_E_init cn_E_init 1 none) ∈ gw_T := gw_in 60 rfl rfl
theorem mw_61 : (Cond.methodLink "WriteOnceVault$Descent" 1 yn_O_init) ∈ gw_T := gw_in 61 (by decide +kernel) rfl
theorem mw_62 : (Cond.fieldLink "WriteOnceVault$Descent" 9 "WriteOnceVault$Descent" "wentRight" "[Z") ∈ gw_T := gw_in 62 (by decide +kernel) rfl
theorem mw_63 : (Cond.fieldLink "WriteOnceVault$Descent" 13 "WriteOnceVault$Descent" "sideFirst" "[I") ∈ gw_T := gw_in 63 (by decide +kernel) rfl
theorem mw_64 : (Cond.fieldLink "WriteOnceVault$Descent" 17 "WriteOnceVault$Descent" "sideCount" "[I") ∈ gw_T := gw_in 64 (by decide +kernel) rfl
theorem mw_65 : (Cond.fieldLink "WriteOnceVault$Descent" 20 "WriteOnceVault$Descent" "steps" "I") ∈ gw_T := gw_in 65 (by decide +kernel) rfl
theorem mw_66 : (Cond.fieldLink "WriteOnceVault$Descent" 24 "WriteOnceVault$Descent" "footFirst" "I") ∈ gw_T := gw_in 66 (by decide +kernel) rfl
theorem mw_67 : (Cond.fieldLink "WriteOnceVault$Descent" 27 "WriteOnceVault$Descent" "footCount" "I") ∈ gw_T := gw_in 67 (by decide +kernel) rfl
theorem mw_68 : (Cond.fieldLink "WriteOnceVault$Descent" 30 "WriteOnceVault$Descent" "footIsShown" "Z") ∈ gw_T := gw_in 68 (by decide +kernel) rfl
theorem mw_69 : (Cond.laysFinal "WriteOnceVault$Descent" "WriteOnceVault$Descent" "wentRight" "[Z") ∈ gw_T := gw_in 69 (by decide +kernel) rfl
theorem mw_71 : (Cond.laysFinal "WriteOnceVault$Descent" "WriteOnceVault$Descent" "sideFirst" "[I") ∈ gw_T := gw_in 71 (by decide +kernel) rfl
theorem mw_73 : (Cond.laysFinal "WriteOnceVault$Descent" "WriteOnceVault$Descent" "sideCount" "[I") ∈ gw_T := gw_in 73 (by decide +kernel) rfl
theorem mw_75 : (Cond.lays "WriteOnceVault$Descent" "WriteOnceVault$Descent" "steps" "I") ∈ gw_T := gw_in 75 (by decide +kernel) rfl
theorem mw_77 : (Cond.lays "WriteOnceVault$Descent" "WriteOnceVault$Descent" "footFirst" "I") ∈ gw_T := gw_in 77 (by decide +kernel) rfl
theorem mw_79 : (Cond.lays "WriteOnceVault$Descent" "WriteOnceVault$Descent" "footCount" "I") ∈ gw_T := gw_in 79 (by decide +kernel) rfl
theorem mw_81 : (Cond.lays "WriteOnceVault$Descent" "WriteOnceVault$Descent" "footIsShown" "Z") ∈ gw_T := gw_in 81 (by decide +kernel) rfl
theorem mw_84 : (Cond.arrayClass .boolean) ∈ gw_T := gw_in 84 (by decide +kernel) rfl
theorem mw_85 : (Cond.classLink "WriteOnceVault" 33 "WriteOnceVault$FedWords") ∈ gw_T := gw_in 85 (by decide +kernel) rfl
theorem mw_86 : (Cond.instantiable "WriteOnceVault$FedWords" 2) ∈ gw_T := gw_in 86 (by decide +kernel) rfl
theorem mw_87 : (Cond.methodLinkNest "WriteOnceVault" 35 yn_F_init "WriteOnceVault") ∈ lw_tbl := List.mem_append_right _ (List.mem_of_getElem? (i := 87) (by decide +kernel))
theorem mw_88 : (Cond.instanceMethod yn_F_init) ∈ gw_T := gw_in 88 (by decide +kernel) rfl
set_option maxRecDepth 20000 in
theorem mw_89 : (Cond.code yn_F_init cn_F_init 1 none) ∈ gw_T := gw_in 89 rfl rfl
theorem mw_90 : (Cond.methodLink "WriteOnceVault$FedWords" 1 yn_O_init) ∈ gw_T := gw_in 90 (by decide +kernel) rfl
theorem mw_91 : (Cond.fieldLink "WriteOnceVault$FedWords" 9 "WriteOnceVault$FedWords" "fed" "[I") ∈ gw_T := gw_in 91 (by decide +kernel) rfl
theorem mw_92 : (Cond.fieldLink "WriteOnceVault$FedWords" 13 "WriteOnceVault$FedWords" "count" "I") ∈ gw_T := gw_in 92 (by decide +kernel) rfl
theorem mw_93 : (Cond.laysFinal "WriteOnceVault$FedWords" "WriteOnceVault$FedWords" "fed" "[I") ∈ gw_T := gw_in 93 (by decide +kernel) rfl
theorem mw_95 : (Cond.lays "WriteOnceVault$FedWords" "WriteOnceVault$FedWords" "count" "I") ∈ gw_T := gw_in 95 (by decide +kernel) rfl
theorem mw_98 : (Cond.fieldLink "WriteOnceVault" 10 "WriteOnceVault" "image" "LWriteOnceVault$Image;") ∈ gw_T := gw_in 98 (by decide +kernel) rfl
theorem mw_99 : (Cond.fieldLink "WriteOnceVault" 19 "WriteOnceVault" "catalog" "LWriteOnceVault$Catalog;") ∈ gw_T := gw_in 99 (by decide +kernel) rfl
theorem mw_100 : (Cond.fieldLink "WriteOnceVault" 23 "WriteOnceVault" "auditCatalog" "LWriteOnceVault$Catalog;") ∈ gw_T := gw_in 100 (by decide +kernel) rfl
theorem mw_101 : (Cond.fieldLink "WriteOnceVault" 29 "WriteOnceVault" "descent" "LWriteOnceVault$Descent;") ∈ gw_T := gw_in 101 (by decide +kernel) rfl
theorem mw_102 : (Cond.fieldLink "WriteOnceVault" 36 "WriteOnceVault" "fedWords" "LWriteOnceVault$FedWords;") ∈ gw_T := gw_in 102 (by decide +kernel) rfl
theorem mw_103 : (Cond.fieldLink "WriteOnceVault" 40 "WriteOnceVault" "draft" "[I") ∈ gw_T := gw_in 103 (by decide +kernel) rfl
theorem mw_104 : (Cond.fieldLink "WriteOnceVault" 44 "WriteOnceVault" "clock" "I") ∈ gw_T := gw_in 104 (by decide +kernel) rfl
theorem mw_105 : (Cond.fieldLink "WriteOnceVault" 48 "WriteOnceVault" "powered" "Z") ∈ gw_T := gw_in 105 (by decide +kernel) rfl
theorem mw_106 : (Cond.fieldLink "WriteOnceVault" 52 "WriteOnceVault" "wordsBeforeCut" "I") ∈ gw_T := gw_in 106 (by decide +kernel) rfl
theorem mw_107 : (Cond.laysFinal "WriteOnceVault" "WriteOnceVault" "image" "LWriteOnceVault$Image;") ∈ gw_T := gw_in 107 (by decide +kernel) rfl
theorem mw_109 : (Cond.laysFinal "WriteOnceVault" "WriteOnceVault" "catalog" "LWriteOnceVault$Catalog;") ∈ gw_T := gw_in 109 (by decide +kernel) rfl
theorem mw_111 : (Cond.laysFinal "WriteOnceVault" "WriteOnceVault" "auditCatalog" "LWriteOnceVault$Catalog;") ∈ gw_T := gw_in 111 (by decide +kernel) rfl
theorem mw_113 : (Cond.laysFinal "WriteOnceVault" "WriteOnceVault" "descent" "LWriteOnceVault$Descent;") ∈ gw_T := gw_in 113 (by decide +kernel) rfl
theorem mw_115 : (Cond.laysFinal "WriteOnceVault" "WriteOnceVault" "fedWords" "LWriteOnceVault$FedWords;") ∈ gw_T := gw_in 115 (by decide +kernel) rfl
theorem mw_117 : (Cond.laysFinal "WriteOnceVault" "WriteOnceVault" "draft" "[I") ∈ gw_T := gw_in 117 (by decide +kernel) rfl
theorem mw_119 : (Cond.lays "WriteOnceVault" "WriteOnceVault" "clock" "I") ∈ gw_T := gw_in 119 (by decide +kernel) rfl
theorem mw_121 : (Cond.lays "WriteOnceVault" "WriteOnceVault" "powered" "Z") ∈ gw_T := gw_in 121 (by decide +kernel) rfl
theorem mw_123 : (Cond.lays "WriteOnceVault" "WriteOnceVault" "wordsBeforeCut" "I") ∈ gw_T := gw_in 123 (by decide +kernel) rfl
theorem mw_126 : (Cond.methodLink "WriteOnceVaultLaw" 13 yn_X_put) ∈ gw_T := gw_in 126 (by decide +kernel) rfl
theorem mw_127 : (Cond.instanceMethod yn_X_put) ∈ gw_T := gw_in 127 (by decide +kernel) rfl
theorem mw_128 : (Cond.selects "WriteOnceVault" yn_X_put yn_X_put) ∈ gw_T := gw_in 128 (by decide +kernel) rfl
set_option maxRecDepth 20000 in
theorem mw_129 : (Cond.code yn_X_put cn_X_put 10 (some .int)) ∈ gw_T := gw_in 129 rfl rfl
theorem mw_130 : (Cond.methodLink "WriteOnceVault" 55 yn_C_nextId) ∈ gw_T := gw_in 130 (by decide +kernel) rfl
theorem mw_131 : (Cond.instanceMethod yn_C_nextId) ∈ gw_T := gw_in 131 (by decide +kernel) rfl
theorem mw_132 : (Cond.selects "WriteOnceVault$Catalog" yn_C_nextId yn_C_nextId) ∈ gw_T := gw_in 132 (by decide +kernel) rfl
set_option maxRecDepth 20000 in
theorem mw_133 : (Cond.code yn_C_nextId cn_C_nextId 1 (some .int)) ∈ gw_T := gw_in 133 rfl rfl
theorem mw_134 : (Cond.methodLink "WriteOnceVault" 59 yn_X_refusalOf) ∈ gw_T := gw_in 134 (by decide +kernel) rfl
theorem mw_136 : (Cond.instanceMethod yn_X_refusalOf) ∈ gw_T := gw_in 136 (by decide +kernel) rfl
set_option maxRecDepth 20000 in
theorem mw_137 : (Cond.code yn_X_refusalOf cn_X_refusalOf 4 (some .int)) ∈ gw_T := gw_in 137 rfl rfl
theorem mw_138 : (Cond.methodLink "WriteOnceVault" 163 yn_C_verdict) ∈ gw_T := gw_in 138 (by decide +kernel) rfl
theorem mw_139 : (Cond.instanceMethod yn_C_verdict) ∈ gw_T := gw_in 139 (by decide +kernel) rfl
theorem mw_140 : (Cond.selects "WriteOnceVault$Catalog" yn_C_verdict yn_C_verdict) ∈ gw_T := gw_in 140 (by decide +kernel) rfl
set_option maxRecDepth 20000 in
theorem mw_141 : (Cond.code yn_C_verdict cn_C_verdict 6 (some .int)) ∈ gw_T := gw_in 141 rfl rfl
theorem mw_142 : (Cond.methodLink "WriteOnceVault$Catalog" 39 yn_C_verdictOfKind) ∈ gw_T := gw_in 142 (by decide +kernel) rfl
theorem mw_144 : (Cond.instanceMethod yn_C_verdictOfKind) ∈ gw_T := gw_in 144 (by decide +kernel) rfl
set_option maxRecDepth 20000 in
theorem mw_145 : (Cond.code yn_C_verdictOfKind cn_C_verdictOfKind 5 (some .int)) ∈ gw_T := gw_in 145 rfl rfl
theorem mw_146 : (Cond.methodLink "WriteOnceVault$Catalog" 43 yn_C_putVerdict) ∈ gw_T := gw_in 146 (by decide +kernel) rfl
theorem mw_148 : (Cond.instanceMethod yn_C_putVerdict) ∈ gw_T := gw_in 148 (by decide +kernel) rfl
set_option maxRecDepth 20000 in
theorem mw_149 : (Cond.code yn_C_putVerdict cn_C_putVerdict 3 (some .int)) ∈ gw_T := gw_in 149 rfl rfl
theorem mw_150 : (Cond.methodLink "WriteOnceVault$Catalog" 58 yn_C_isDate) ∈ gw_T := gw_in 150 (by decide +kernel) rfl
theorem mw_151 : (Cond.static yn_C_isDate) ∈ gw_T := gw_in 151 (by decide +kernel) rfl
set_option maxRecDepth 20000 in
theorem mw_152 : (Cond.code yn_C_isDate cn_C_isDate 1 (some .boolean)) ∈ gw_T := gw_in 152 rfl rfl
theorem mw_153 : (Cond.constant "WriteOnceVault$Catalog" 61 (1000000)) ∈ gw_T := gw_in 153 (by decide +kernel) rfl
theorem mw_154 : (Cond.methodLink "WriteOnceVault$Catalog" 47 yn_C_extendVerdict) ∈ gw_T := gw_in 154 (by decide +kernel) rfl
theorem mw_156 : (Cond.instanceMethod yn_C_extendVerdict) ∈ gw_T := gw_in 156 (by decide +kernel) rfl
set_option maxRecDepth 20000 in
theorem mw_157 : (Cond.code yn_C_extendVerdict cn_C_extendVerdict 3 (some .int)) ∈ gw_T := gw_in 157 rfl rfl
theorem mw_158 : (Cond.methodLink "WriteOnceVault$Catalog" 35 yn_C_isThere) ∈ gw_T := gw_in 158 (by decide +kernel) rfl
theorem mw_159 : (Cond.instanceMethod yn_C_isThere) ∈ gw_T := gw_in 159 (by decide +kernel) rfl
theorem mw_160 : (Cond.selects "WriteOnceVault$Catalog" yn_C_isThere yn_C_isThere) ∈ gw_T := gw_in 160 (by decide +kernel) rfl
set_option maxRecDepth 20000 in
theorem mw_161 : (Cond.code yn_C_isThere cn_C_isThere 2 (some .boolean)) ∈ gw_T := gw_in 161 rfl rfl
theorem mw_162 : (Cond.methodLink "WriteOnceVault$Catalog" 50 yn_C_holdVerdict) ∈ gw_T := gw_in 162 (by decide +kernel) rfl
theorem mw_164 : (Cond.instanceMethod yn_C_holdVerdict) ∈ gw_T := gw_in 164 (by decide +kernel) rfl
set_option maxRecDepth 20000 in
theorem mw_165 : (Cond.code yn_C_holdVerdict cn_C_holdVerdict 5 (some .int)) ∈ gw_T := gw_in 165 rfl rfl
theorem mw_166 : (Cond.methodLink "WriteOnceVault$Catalog" 31 yn_C_stateOf) ∈ gw_T := gw_in 166 (by decide +kernel) rfl
theorem mw_167 : (Cond.instanceMethod yn_C_stateOf) ∈ gw_T := gw_in 167 (by decide +kernel) rfl
theorem mw_168 : (Cond.selects "WriteOnceVault$Catalog" yn_C_stateOf yn_C_stateOf) ∈ gw_T := gw_in 168 (by decide +kernel) rfl
set_option maxRecDepth 20000 in
theorem mw_169 : (Cond.code yn_C_stateOf cn_C_stateOf 2 (some .int)) ∈ gw_T := gw_in 169 rfl rfl
theorem mw_170 : (Cond.methodLink "WriteOnceVault$Catalog" 54 yn_C_endVerdict) ∈ gw_T := gw_in 170 (by decide +kernel) rfl
theorem mw_172 : (Cond.instanceMethod yn_C_endVerdict) ∈ gw_T := gw_in 172 (by decide +kernel) rfl
set_option maxRecDepth 20000 in
theorem mw_173 : (Cond.code yn_C_endVerdict cn_C_endVerdict 4 (some .int)) ∈ gw_T := gw_in 173 rfl rfl
theorem mw_174 : (Cond.methodLink "WriteOnceVault" 63 yn_H_pad) ∈ gw_T := gw_in 174 (by decide +kernel) rfl
theorem mw_175 : (Cond.static yn_H_pad) ∈ gw_T := gw_in 175 (by decide +kernel) rfl
set_option maxRecDepth 20000 in
theorem mw_176 : (Cond.code yn_H_pad cn_H_pad 3 (some .int)) ∈ gw_T := gw_in 176 rfl rfl
theorem mw_177 : (Cond.methodLink "WriteOnceVault$Digests" 14 yn_H_mix) ∈ gw_T := gw_in 177 (by decide +kernel) rfl
theorem mw_178 : (Cond.static yn_H_mix) ∈ gw_T := gw_in 178 (by decide +kernel) rfl
set_option maxRecDepth 20000 in
theorem mw_179 : (Cond.code yn_H_mix cn_H_mix 3 (some .int)) ∈ gw_T := gw_in 179 rfl rfl
theorem mw_180 : (Cond.methodLink "WriteOnceVault$Digests" 7 yn_J_rotateLeft) ∈ gw_T := gw_in 180 (by decide +kernel) rfl
theorem mw_181 : (Cond.static yn_J_rotateLeft) ∈ gw_T := gw_in 181 (by decide +kernel) rfl
set_option maxRecDepth 20000 in
theorem mw_182 : (Cond.code yn_J_rotateLeft cn_J_rotateLeft 2 (some .int)) ∈ gw_T := gw_in 182 rfl rfl
theorem mw_183 : (Cond.constant "WriteOnceVault$Digests" 13 (48271001)) ∈ gw_T := gw_in 183 (by decide +kernel) rfl
theorem mw_184 : (Cond.methodLink "WriteOnceVault" 68 yn_X_draftRecord) ∈ gw_T := gw_in 184 (by decide +kernel) rfl
theorem mw_186 : (Cond.instanceMethod yn_X_draftRecord) ∈ gw_T := gw_in 186 (by decide +kernel) rfl
set_option maxRecDepth 20000 in
theorem mw_187 : (Cond.code yn_X_draftRecord cn_X_draftRecord 6 none) ∈ gw_T := gw_in 187 rfl rfl
theorem mw_188 : (Cond.methodLink "WriteOnceVault" 167 yn_H_leafAt) ∈ gw_T := gw_in 188 (by decide +kernel) rfl
theorem mw_189 : (Cond.static yn_H_leafAt) ∈ gw_T := gw_in 189 (by decide +kernel) rfl
set_option maxRecDepth 20000 in
theorem mw_190 : (Cond.code yn_H_leafAt cn_H_leafAt 4 (some .int)) ∈ gw_T := gw_in 190 rfl rfl
theorem mw_191 : (Cond.methodLink "WriteOnceVault" 72 yn_G_keyPlace) ∈ gw_T := gw_in 191 (by decide +kernel) rfl
theorem mw_192 : (Cond.static yn_G_keyPlace) ∈ gw_T := gw_in 192 (by decide +kernel) rfl
set_option maxRecDepth 20000 in
theorem mw_193 : (Cond.code yn_G_keyPlace cn_G_keyPlace 1 (some .int)) ∈ gw_T := gw_in 193 rfl rfl
theorem mw_194 : (Cond.methodLink "WriteOnceVault" 76 yn_X_writeWord) ∈ gw_T := gw_in 194 (by decide +kernel) rfl
theorem mw_196 : (Cond.instanceMethod yn_X_writeWord) ∈ gw_T := gw_in 196 (by decide +kernel) rfl
set_option maxRecDepth 20000 in
theorem mw_197 : (Cond.code yn_X_writeWord cn_X_writeWord 3 (some .boolean)) ∈ gw_T := gw_in 197 rfl rfl
theorem mw_198 : (Cond.methodLink "WriteOnceVault" 153 yn_G_store) ∈ gw_T := gw_in 198 (by decide +kernel) rfl
theorem mw_199 : (Cond.instanceMethod yn_G_store) ∈ gw_T := gw_in 199 (by decide +kernel) rfl
theorem mw_200 : (Cond.selects "WriteOnceVault$Image" yn_G_store yn_G_store) ∈ gw_T := gw_in 200 (by decide +kernel) rfl
set_option maxRecDepth 20000 in
theorem mw_201 : (Cond.code yn_G_store cn_G_store 3 none) ∈ gw_T := gw_in 201 rfl rfl
theorem mw_202 : (Cond.methodLink "WriteOnceVault$Image" 18 yn_G_hasPlace) ∈ gw_T := gw_in 202 (by decide +kernel) rfl
theorem mw_203 : (Cond.static yn_G_hasPlace) ∈ gw_T := gw_in 203 (by decide +kernel) rfl
set_option maxRecDepth 20000 in
theorem mw_204 : (Cond.code yn_G_hasPlace cn_G_hasPlace 1 (some .boolean)) ∈ gw_T := gw_in 204 rfl rfl
theorem mw_205 : (Cond.methodLink "WriteOnceVault" 80 yn_X_writeDraft) ∈ gw_T := gw_in 205 (by decide +kernel) rfl
theorem mw_207 : (Cond.instanceMethod yn_X_writeDraft) ∈ gw_T := gw_in 207 (by decide +kernel) rfl
set_option maxRecDepth 20000 in
theorem mw_208 : (Cond.code yn_X_writeDraft cn_X_writeDraft 3 (some .boolean)) ∈ gw_T := gw_in 208 rfl rfl
theorem mw_209 : (Cond.methodLink "WriteOnceVault" 119 yn_C_recordCount) ∈ gw_T := gw_in 209 (by decide +kernel) rfl
theorem mw_210 : (Cond.instanceMethod yn_C_recordCount) ∈ gw_T := gw_in 210 (by decide +kernel) rfl
theorem mw_211 : (Cond.selects "WriteOnceVault$Catalog" yn_C_recordCount yn_C_recordCount) ∈ gw_T := gw_in 211 (by decide +kernel) rfl
set_option maxRecDepth 20000 in
theorem mw_212 : (Cond.code yn_C_recordCount cn_C_recordCount 1 (some .int)) ∈ gw_T := gw_in 212 rfl rfl
theorem mw_213 : (Cond.methodLink "WriteOnceVault" 171 yn_G_recordPlace) ∈ gw_T := gw_in 213 (by decide +kernel) rfl
theorem mw_214 : (Cond.static yn_G_recordPlace) ∈ gw_T := gw_in 214 (by decide +kernel) rfl
set_option maxRecDepth 20000 in
theorem mw_215 : (Cond.code yn_G_recordPlace cn_G_recordPlace 1 (some .int)) ∈ gw_T := gw_in 215 rfl rfl
theorem mw_216 : (Cond.methodLink "WriteOnceVault" 84 yn_C_enter) ∈ gw_T := gw_in 216 (by decide +kernel) rfl
theorem mw_217 : (Cond.instanceMethod yn_C_enter) ∈ gw_T := gw_in 217 (by decide +kernel) rfl
theorem mw_218 : (Cond.selects "WriteOnceVault$Catalog" yn_C_enter yn_C_enter) ∈ gw_T := gw_in 218 (by decide +kernel) rfl
set_option maxRecDepth 20000 in
theorem mw_219 : (Cond.code yn_C_enter cn_C_enter 4 none) ∈ gw_T := gw_in 219 rfl rfl
theorem mw_220 : (Cond.methodLink "WriteOnceVault$Catalog" 62 yn_C_addObject) ∈ gw_T := gw_in 220 (by decide +kernel) rfl
theorem mw_222 : (Cond.instanceMethod yn_C_addObject) ∈ gw_T := gw_in 222 (by decide +kernel) rfl
set_option maxRecDepth 20000 in
theorem mw_223 : (Cond.code yn_C_addObject cn_C_addObject 2 none) ∈ gw_T := gw_in 223 rfl rfl
theorem mw_224 : (Cond.methodLink "WriteOnceVault$Catalog" 66 yn_C_changeObject) ∈ gw_T := gw_in 224 (by decide +kernel) rfl
theorem mw_226 : (Cond.instanceMethod yn_C_changeObject) ∈ gw_T := gw_in 226 (by decide +kernel) rfl
set_option maxRecDepth 20000 in
theorem mw_227 : (Cond.code yn_C_changeObject cn_C_changeObject 4 none) ∈ gw_T := gw_in 227 rfl rfl
theorem mw_228 : (Cond.methodLink "WriteOnceVaultLaw" 18 yn_X_extend) ∈ gw_T := gw_in 228 (by decide +kernel) rfl
theorem mw_229 : (Cond.instanceMethod yn_X_extend) ∈ gw_T := gw_in 229 (by decide +kernel) rfl
theorem mw_230 : (Cond.selects "WriteOnceVault" yn_X_extend yn_X_extend) ∈ gw_T := gw_in 230 (by decide +kernel) rfl
set_option maxRecDepth 20000 in
theorem mw_231 : (Cond.code yn_X_extend cn_X_extend 3 (some .int)) ∈ gw_T := gw_in 231 rfl rfl
theorem mw_232 : (Cond.methodLink "WriteOnceVault" 88 yn_X_change) ∈ gw_T := gw_in 232 (by decide +kernel) rfl
theorem mw_234 : (Cond.instanceMethod yn_X_change) ∈ gw_T := gw_in 234 (by decide +kernel) rfl
set_option maxRecDepth 20000 in
theorem mw_235 : (Cond.code yn_X_change cn_X_change 6 (some .int)) ∈ gw_T := gw_in 235 rfl rfl
theorem mw_236 : (Cond.methodLink "WriteOnceVaultLaw" 23 yn_X_hold) ∈ gw_T := gw_in 236 (by decide +kernel) rfl
theorem mw_237 : (Cond.instanceMethod yn_X_hold) ∈ gw_T := gw_in 237 (by decide +kernel) rfl
theorem mw_238 : (Cond.selects "WriteOnceVault" yn_X_hold yn_X_hold) ∈ gw_T := gw_in 238 (by decide +kernel) rfl
set_option maxRecDepth 20000 in
theorem mw_239 : (Cond.code yn_X_hold cn_X_hold 4 (some .int)) ∈ gw_T := gw_in 239 rfl rfl
theorem mw_240 : (Cond.methodLink "WriteOnceVaultLaw" 28 yn_X_delete) ∈ gw_T := gw_in 240 (by decide +kernel) rfl
theorem mw_241 : (Cond.instanceMethod yn_X_delete) ∈ gw_T := gw_in 241 (by decide +kernel) rfl
theorem mw_242 : (Cond.selects "WriteOnceVault" yn_X_delete yn_X_delete) ∈ gw_T := gw_in 242 (by decide +kernel) rfl
set_option maxRecDepth 20000 in
theorem mw_243 : (Cond.code yn_X_delete cn_X_delete 2 (some .int)) ∈ gw_T := gw_in 243 rfl rfl
theorem mw_244 : (Cond.methodLink "WriteOnceVaultLaw" 33 yn_X_shred) ∈ gw_T := gw_in 244 (by decide +kernel) rfl
theorem mw_245 : (Cond.instanceMethod yn_X_shred) ∈ gw_T := gw_in 245 (by decide +kernel) rfl
theorem mw_246 : (Cond.selects "WriteOnceVault" yn_X_shred yn_X_shred) ∈ gw_T := gw_in 246 (by decide +kernel) rfl
set_option maxRecDepth 20000 in
theorem mw_247 : (Cond.code yn_X_shred cn_X_shred 2 (some .int)) ∈ gw_T := gw_in 247 rfl rfl
theorem mw_248 : (Cond.methodLink "WriteOnceVaultLaw" 37 yn_X_tick) ∈ gw_T := gw_in 248 (by decide +kernel) rfl
theorem mw_249 : (Cond.instanceMethod yn_X_tick) ∈ gw_T := gw_in 249 (by decide +kernel) rfl
theorem mw_250 : (Cond.selects "WriteOnceVault" yn_X_tick yn_X_tick) ∈ gw_T := gw_in 250 (by decide +kernel) rfl
set_option maxRecDepth 20000 in
theorem mw_251 : (Cond.code yn_X_tick cn_X_tick 2 (some .int)) ∈ gw_T := gw_in 251 rfl rfl
theorem mw_252 : (Cond.methodLink "WriteOnceVaultLaw" 41 yn_X_get) ∈ gw_T := gw_in 252 (by decide +kernel) rfl
theorem mw_253 : (Cond.instanceMethod yn_X_get) ∈ gw_T := gw_in 253 (by decide +kernel) rfl
theorem mw_254 : (Cond.selects "WriteOnceVault" yn_X_get yn_X_get) ∈ gw_T := gw_in 254 (by decide +kernel) rfl
set_option maxRecDepth 20000 in
theorem mw_255 : (Cond.code yn_X_get cn_X_get 5 (some .long)) ∈ gw_T := gw_in 255 rfl rfl
theorem mw_256 : (Cond.methodLink "WriteOnceVault" 91 yn_C_isLive) ∈ gw_T := gw_in 256 (by decide +kernel) rfl
theorem mw_257 : (Cond.instanceMethod yn_C_isLive) ∈ gw_T := gw_in 257 (by decide +kernel) rfl
theorem mw_258 : (Cond.selects "WriteOnceVault$Catalog" yn_C_isLive yn_C_isLive) ∈ gw_T := gw_in 258 (by decide +kernel) rfl
set_option maxRecDepth 20000 in
theorem mw_259 : (Cond.code yn_C_isLive cn_C_isLive 2 (some .boolean)) ∈ gw_T := gw_in 259 rfl rfl
theorem mw_260 : (Cond.constantLong "WriteOnceVault" 95 (1099511627776)) ∈ gw_T := gw_in 260 (by decide +kernel) rfl
theorem mw_261 : (Cond.methodLink "WriteOnceVault" 97 yn_C_putRecordOf) ∈ gw_T := gw_in 261 (by decide +kernel) rfl
theorem mw_262 : (Cond.instanceMethod yn_C_putRecordOf) ∈ gw_T := gw_in 262 (by decide +kernel) rfl
theorem mw_263 : (Cond.selects "WriteOnceVault$Catalog" yn_C_putRecordOf yn_C_putRecordOf) ∈ gw_T := gw_in 263 (by decide +kernel) rfl
set_option maxRecDepth 20000 in
theorem mw_264 : (Cond.code yn_C_putRecordOf cn_C_putRecordOf 2 (some .int)) ∈ gw_T := gw_in 264 rfl rfl
theorem mw_265 : (Cond.methodLink "WriteOnceVault" 100 yn_G_field) ∈ gw_T := gw_in 265 (by decide +kernel) rfl
theorem mw_266 : (Cond.instanceMethod yn_G_field) ∈ gw_T := gw_in 266 (by decide +kernel) rfl
theorem mw_267 : (Cond.selects "WriteOnceVault$Image" yn_G_field yn_G_field) ∈ gw_T := gw_in 267 (by decide +kernel) rfl
set_option maxRecDepth 20000 in
theorem mw_268 : (Cond.code yn_G_field cn_G_field 3 (some .int)) ∈ gw_T := gw_in 268 rfl rfl
theorem mw_269 : (Cond.methodLink "WriteOnceVault$Image" 22 yn_G_recordPlace) ∈ gw_T := gw_in 269 (by decide +kernel) rfl
theorem mw_270 : (Cond.methodLink "WriteOnceVault$Image" 26 yn_G_read) ∈ gw_T := gw_in 270 (by decide +kernel) rfl
theorem mw_271 : (Cond.instanceMethod yn_G_read) ∈ gw_T := gw_in 271 (by decide +kernel) rfl
theorem mw_272 : (Cond.selects "WriteOnceVault$Image" yn_G_read yn_G_read) ∈ gw_T := gw_in 272 (by decide +kernel) rfl
set_option maxRecDepth 20000 in
theorem mw_273 : (Cond.code yn_G_read cn_G_read 2 (some .int)) ∈ gw_T := gw_in 273 rfl rfl
theorem mw_274 : (Cond.methodLink "WriteOnceVault" 104 yn_G_read) ∈ gw_T := gw_in 274 (by decide +kernel) rfl
theorem mw_275 : (Cond.methodLink "WriteOnceVaultLaw" 46 yn_X_look) ∈ gw_T := gw_in 275 (by decide +kernel) rfl
theorem mw_276 : (Cond.instanceMethod yn_X_look) ∈ gw_T := gw_in 276 (by decide +kernel) rfl
theorem mw_277 : (Cond.selects "WriteOnceVault" yn_X_look yn_X_look) ∈ gw_T := gw_in 277 (by decide +kernel) rfl
set_option maxRecDepth 20000 in
theorem mw_278 : (Cond.code yn_X_look cn_X_look 3 (some .int)) ∈ gw_T := gw_in 278 rfl rfl
theorem mw_279 : (Cond.methodLink "WriteOnceVault" 107 yn_C_isThere) ∈ gw_T := gw_in 279 (by decide +kernel) rfl
theorem mw_280 : (Cond.methodLink "WriteOnceVault" 110 yn_C_stateOf) ∈ gw_T := gw_in 280 (by decide +kernel) rfl
theorem mw_281 : (Cond.methodLink "WriteOnceVault" 113 yn_C_dateOf) ∈ gw_T := gw_in 281 (by decide +kernel) rfl
theorem mw_282 : (Cond.instanceMethod yn_C_dateOf) ∈ gw_T := gw_in 282 (by decide +kernel) rfl
theorem mw_283 : (Cond.selects "WriteOnceVault$Catalog" yn_C_dateOf yn_C_dateOf) ∈ gw_T := gw_in 283 (by decide +kernel) rfl
set_option maxRecDepth 20000 in
theorem mw_284 : (Cond.code yn_C_dateOf cn_C_dateOf 2 (some .int)) ∈ gw_T := gw_in 284 rfl rfl
theorem mw_285 : (Cond.methodLink "WriteOnceVault" 116 yn_C_holdsOf) ∈ gw_T := gw_in 285 (by decide +kernel) rfl
theorem mw_286 : (Cond.instanceMethod yn_C_holdsOf) ∈ gw_T := gw_in 286 (by decide +kernel) rfl
theorem mw_287 : (Cond.selects "WriteOnceVault$Catalog" yn_C_holdsOf yn_C_holdsOf) ∈ gw_T := gw_in 287 (by decide +kernel) rfl
set_option maxRecDepth 20000 in
theorem mw_288 : (Cond.code yn_C_holdsOf cn_C_holdsOf 2 (some .int)) ∈ gw_T := gw_in 288 rfl rfl
theorem mw_289 : (Cond.methodLink "WriteOnceVaultLaw" 50 yn_X_records) ∈ gw_T := gw_in 289 (by decide +kernel) rfl
theorem mw_290 : (Cond.instanceMethod yn_X_records) ∈ gw_T := gw_in 290 (by decide +kernel) rfl
theorem mw_291 : (Cond.selects "WriteOnceVault" yn_X_records yn_X_records) ∈ gw_T := gw_in 291 (by decide +kernel) rfl
set_option maxRecDepth 20000 in
theorem mw_292 : (Cond.code yn_X_records cn_X_records 1 (some .int)) ∈ gw_T := gw_in 292 rfl rfl
theorem mw_293 : (Cond.methodLink "WriteOnceVaultLaw" 55 yn_X_root) ∈ gw_T := gw_in 293 (by decide +kernel) rfl
theorem mw_294 : (Cond.instanceMethod yn_X_root) ∈ gw_T := gw_in 294 (by decide +kernel) rfl
theorem mw_295 : (Cond.selects "WriteOnceVault" yn_X_root yn_X_root) ∈ gw_T := gw_in 295 (by decide +kernel) rfl
set_option maxRecDepth 20000 in
theorem mw_296 : (Cond.code yn_X_root cn_X_root 2 (some .long)) ∈ gw_T := gw_in 296 rfl rfl
theorem mw_297 : (Cond.methodLink "WriteOnceVault" 122 yn_G_rootOf) ∈ gw_T := gw_in 297 (by decide +kernel) rfl
theorem mw_298 : (Cond.instanceMethod yn_G_rootOf) ∈ gw_T := gw_in 298 (by decide +kernel) rfl
theorem mw_299 : (Cond.selects "WriteOnceVault$Image" yn_G_rootOf yn_G_rootOf) ∈ gw_T := gw_in 299 (by decide +kernel) rfl
set_option maxRecDepth 20000 in
theorem mw_300 : (Cond.code yn_G_rootOf cn_G_rootOf 2 (some .int)) ∈ gw_T := gw_in 300 rfl rfl
theorem mw_301 : (Cond.methodLink "WriteOnceVault$Image" 40 yn_G_tree) ∈ gw_T := gw_in 301 (by decide +kernel) rfl
theorem mw_302 : (Cond.instanceMethod yn_G_tree) ∈ gw_T := gw_in 302 (by decide +kernel) rfl
theorem mw_303 : (Cond.selects "WriteOnceVault$Image" yn_G_tree yn_G_tree) ∈ gw_T := gw_in 303 (by decide +kernel) rfl
set_option maxRecDepth 20000 in
theorem mw_304 : (Cond.code yn_G_tree cn_G_tree 4 (some .int)) ∈ gw_T := gw_in 304 rfl rfl
theorem mw_305 : (Cond.methodLink "WriteOnceVault$Image" 33 yn_G_leaf) ∈ gw_T := gw_in 305 (by decide +kernel) rfl
theorem mw_307 : (Cond.instanceMethod yn_G_leaf) ∈ gw_T := gw_in 307 (by decide +kernel) rfl
set_option maxRecDepth 20000 in
theorem mw_308 : (Cond.code yn_G_leaf cn_G_leaf 2 (some .int)) ∈ gw_T := gw_in 308 rfl rfl
theorem mw_309 : (Cond.methodLink "WriteOnceVault$Image" 52 yn_H_leafAt) ∈ gw_T := gw_in 309 (by decide +kernel) rfl
theorem mw_310 : (Cond.methodLink "WriteOnceVault$Image" 43 yn_G_joinNeighbours) ∈ gw_T := gw_in 310 (by decide +kernel) rfl
theorem mw_312 : (Cond.instanceMethod yn_G_joinNeighbours) ∈ gw_T := gw_in 312 (by decide +kernel) rfl
set_option maxRecDepth 20000 in
theorem mw_313 : (Cond.code yn_G_joinNeighbours cn_G_joinNeighbours 4 none) ∈ gw_T := gw_in 313 rfl rfl
theorem mw_314 : (Cond.methodLink "WriteOnceVault$Image" 47 yn_H_node) ∈ gw_T := gw_in 314 (by decide +kernel) rfl
theorem mw_315 : (Cond.static yn_H_node) ∈ gw_T := gw_in 315 (by decide +kernel) rfl
set_option maxRecDepth 20000 in
theorem mw_316 : (Cond.code yn_H_node cn_H_node 2 (some .int)) ∈ gw_T := gw_in 316 rfl rfl
theorem mw_317 : (Cond.methodLink "WriteOnceVaultLaw" 60 yn_X_path) ∈ gw_T := gw_in 317 (by decide +kernel) rfl
theorem mw_318 : (Cond.instanceMethod yn_X_path) ∈ gw_T := gw_in 318 (by decide +kernel) rfl
theorem mw_319 : (Cond.selects "WriteOnceVault" yn_X_path yn_X_path) ∈ gw_T := gw_in 319 (by decide +kernel) rfl
set_option maxRecDepth 20000 in
theorem mw_320 : (Cond.code yn_X_path cn_X_path 4 (some .long)) ∈ gw_T := gw_in 320 rfl rfl
theorem mw_321 : (Cond.methodLink "WriteOnceVault" 125 yn_E_toLeaf) ∈ gw_T := gw_in 321 (by decide +kernel) rfl
theorem mw_322 : (Cond.instanceMethod yn_E_toLeaf) ∈ gw_T := gw_in 322 (by decide +kernel) rfl
theorem mw_323 : (Cond.selects "WriteOnceVault$Descent" yn_E_toLeaf yn_E_toLeaf) ∈ gw_T := gw_in 323 (by decide +kernel) rfl
set_option maxRecDepth 20000 in
theorem mw_324 : (Cond.code yn_E_toLeaf cn_E_toLeaf 3 none) ∈ gw_T := gw_in 324 rfl rfl
theorem mw_325 : (Cond.methodLink "WriteOnceVault$Descent" 34 yn_E_goDown) ∈ gw_T := gw_in 325 (by decide +kernel) rfl
theorem mw_327 : (Cond.instanceMethod yn_E_goDown) ∈ gw_T := gw_in 327 (by decide +kernel) rfl
set_option maxRecDepth 20000 in
theorem mw_328 : (Cond.code yn_E_goDown cn_E_goDown 6 none) ∈ gw_T := gw_in 328 rfl rfl
theorem mw_329 : (Cond.methodLink "WriteOnceVault$Descent" 38 yn_E_stepTowards) ∈ gw_T := gw_in 329 (by decide +kernel) rfl
theorem mw_331 : (Cond.instanceMethod yn_E_stepTowards) ∈ gw_T := gw_in 331 (by decide +kernel) rfl
set_option maxRecDepth 20000 in
theorem mw_332 : (Cond.code yn_E_stepTowards cn_E_stepTowards 5 none) ∈ gw_T := gw_in 332 rfl rfl
theorem mw_333 : (Cond.methodLink "WriteOnceVault$Descent" 42 yn_J_highestOneBit) ∈ gw_T := gw_in 333 (by decide +kernel) rfl
theorem mw_334 : (Cond.static yn_J_highestOneBit) ∈ gw_T := gw_in 334 (by decide +kernel) rfl
set_option maxRecDepth 20000 in
theorem mw_335 : (Cond.code yn_J_highestOneBit cn_J_highestOneBit 1 (some .int)) ∈ gw_T := gw_in 335 rfl rfl
theorem mw_336 : (Cond.constant "java/lang/Integer" 127 (-2147483648)) ∈ gw_T := gw_in 336 (by decide +kernel) rfl
theorem mw_337 : (Cond.methodLink "java/lang/Integer" 51 yn_J_numberOfLeadingZeros) ∈ gw_T := gw_in 337 (by decide +kernel) rfl
theorem mw_338 : (Cond.static yn_J_numberOfLeadingZeros) ∈ gw_T := gw_in 338 (by decide +kernel) rfl
set_option maxRecDepth 20000 in
theorem mw_339 : (Cond.code yn_J_numberOfLeadingZeros cn_J_numberOfLeadingZeros 2 (some .int)) ∈ gw_T := gw_in 339 rfl rfl
theorem mw_340 : (Cond.constant "java/lang/Integer" 264 (65536)) ∈ gw_T := gw_in 340 (by decide +kernel) rfl
theorem mw_341 : (Cond.methodLink "WriteOnceVault" 129 yn_X_digestOnTheWay) ∈ gw_T := gw_in 341 (by decide +kernel) rfl
theorem mw_343 : (Cond.instanceMethod yn_X_digestOnTheWay) ∈ gw_T := gw_in 343 (by decide +kernel) rfl
set_option maxRecDepth 20000 in
theorem mw_344 : (Cond.code yn_X_digestOnTheWay cn_X_digestOnTheWay 2 (some .long)) ∈ gw_T := gw_in 344 rfl rfl
theorem mw_345 : (Cond.methodLink "WriteOnceVault" 181 yn_E_digestCount) ∈ gw_T := gw_in 345 (by decide +kernel) rfl
theorem mw_346 : (Cond.instanceMethod yn_E_digestCount) ∈ gw_T := gw_in 346 (by decide +kernel) rfl
theorem mw_347 : (Cond.selects "WriteOnceVault$Descent" yn_E_digestCount yn_E_digestCount) ∈ gw_T := gw_in 347 (by decide +kernel) rfl
set_option maxRecDepth 20000 in
theorem mw_348 : (Cond.code yn_E_digestCount cn_E_digestCount 1 (some .int)) ∈ gw_T := gw_in 348 rfl rfl
theorem mw_349 : (Cond.methodLink "WriteOnceVault" 184 yn_E_firstUnder) ∈ gw_T := gw_in 349 (by decide +kernel) rfl
theorem mw_350 : (Cond.instanceMethod yn_E_firstUnder) ∈ gw_T := gw_in 350 (by decide +kernel) rfl
theorem mw_351 : (Cond.selects "WriteOnceVault$Descent" yn_E_firstUnder yn_E_firstUnder) ∈ gw_T := gw_in 351 (by decide +kernel) rfl
set_option maxRecDepth 20000 in
theorem mw_352 : (Cond.code yn_E_firstUnder cn_E_firstUnder 3 (some .int)) ∈ gw_T := gw_in 352 rfl rfl
theorem mw_353 : (Cond.methodLink "WriteOnceVault$Descent" 48 yn_E_stepOf) ∈ gw_T := gw_in 353 (by decide +kernel) rfl
theorem mw_355 : (Cond.instanceMethod yn_E_stepOf) ∈ gw_T := gw_in 355 (by decide +kernel) rfl
set_option maxRecDepth 20000 in
theorem mw_356 : (Cond.code yn_E_stepOf cn_E_stepOf 2 (some .int)) ∈ gw_T := gw_in 356 rfl rfl
theorem mw_357 : (Cond.methodLink "WriteOnceVault$Descent" 51 yn_E_digestCount) ∈ gw_T := gw_in 357 (by decide +kernel) rfl
theorem mw_358 : (Cond.methodLink "WriteOnceVault" 187 yn_E_countUnder) ∈ gw_T := gw_in 358 (by decide +kernel) rfl
theorem mw_359 : (Cond.instanceMethod yn_E_countUnder) ∈ gw_T := gw_in 359 (by decide +kernel) rfl
theorem mw_360 : (Cond.selects "WriteOnceVault$Descent" yn_E_countUnder yn_E_countUnder) ∈ gw_T := gw_in 360 (by decide +kernel) rfl
set_option maxRecDepth 20000 in
theorem mw_361 : (Cond.code yn_E_countUnder cn_E_countUnder 3 (some .int)) ∈ gw_T := gw_in 361 rfl rfl
theorem mw_362 : (Cond.methodLink "WriteOnceVault" 190 yn_G_tree) ∈ gw_T := gw_in 362 (by decide +kernel) rfl
theorem mw_363 : (Cond.methodLink "WriteOnceVaultLaw" 65 yn_X_bridge) ∈ gw_T := gw_in 363 (by decide +kernel) rfl
theorem mw_364 : (Cond.instanceMethod yn_X_bridge) ∈ gw_T := gw_in 364 (by decide +kernel) rfl
theorem mw_365 : (Cond.selects "WriteOnceVault" yn_X_bridge yn_X_bridge) ∈ gw_T := gw_in 365 (by decide +kernel) rfl
set_option maxRecDepth 20000 in
theorem mw_366 : (Cond.code yn_X_bridge cn_X_bridge 4 (some .long)) ∈ gw_T := gw_in 366 rfl rfl
theorem mw_367 : (Cond.methodLink "WriteOnceVault" 133 yn_E_toEdge) ∈ gw_T := gw_in 367 (by decide +kernel) rfl
theorem mw_368 : (Cond.instanceMethod yn_E_toEdge) ∈ gw_T := gw_in 368 (by decide +kernel) rfl
theorem mw_369 : (Cond.selects "WriteOnceVault$Descent" yn_E_toEdge yn_E_toEdge) ∈ gw_T := gw_in 369 (by decide +kernel) rfl
set_option maxRecDepth 20000 in
theorem mw_370 : (Cond.code yn_E_toEdge cn_E_toEdge 3 none) ∈ gw_T := gw_in 370 rfl rfl
theorem mw_371 : (Cond.methodLink "WriteOnceVaultLaw" 69 yn_X_feed) ∈ gw_T := gw_in 371 (by decide +kernel) rfl
theorem mw_372 : (Cond.instanceMethod yn_X_feed) ∈ gw_T := gw_in 372 (by decide +kernel) rfl
theorem mw_373 : (Cond.selects "WriteOnceVault" yn_X_feed yn_X_feed) ∈ gw_T := gw_in 373 (by decide +kernel) rfl
set_option maxRecDepth 20000 in
theorem mw_374 : (Cond.code yn_X_feed cn_X_feed 2 (some .boolean)) ∈ gw_T := gw_in 374 rfl rfl
theorem mw_375 : (Cond.methodLink "WriteOnceVault" 136 yn_F_add) ∈ gw_T := gw_in 375 (by decide +kernel) rfl
theorem mw_376 : (Cond.instanceMethod yn_F_add) ∈ gw_T := gw_in 376 (by decide +kernel) rfl
theorem mw_377 : (Cond.selects "WriteOnceVault$FedWords" yn_F_add yn_F_add) ∈ gw_T := gw_in 377 (by decide +kernel) rfl
set_option maxRecDepth 20000 in
theorem mw_378 : (Cond.code yn_F_add cn_F_add 2 (some .boolean)) ∈ gw_T := gw_in 378 rfl rfl
theorem mw_379 : (Cond.methodLink "WriteOnceVaultLaw" 74 yn_X_included) ∈ gw_T := gw_in 379 (by decide +kernel) rfl
theorem mw_380 : (Cond.instanceMethod yn_X_included) ∈ gw_T := gw_in 380 (by decide +kernel) rfl
theorem mw_381 : (Cond.selects "WriteOnceVault" yn_X_included yn_X_included) ∈ gw_T := gw_in 381 (by decide +kernel) rfl
set_option maxRecDepth 20000 in
theorem mw_382 : (Cond.code yn_X_included cn_X_included 5 (some .boolean)) ∈ gw_T := gw_in 382 rfl rfl
theorem mw_383 : (Cond.methodLink "WriteOnceVault" 139 yn_F_proveLeaf) ∈ gw_T := gw_in 383 (by decide +kernel) rfl
theorem mw_384 : (Cond.instanceMethod yn_F_proveLeaf) ∈ gw_T := gw_in 384 (by decide +kernel) rfl
theorem mw_385 : (Cond.selects "WriteOnceVault$FedWords" yn_F_proveLeaf yn_F_proveLeaf) ∈ gw_T := gw_in 385 (by decide +kernel) rfl
set_option maxRecDepth 20000 in
theorem mw_386 : (Cond.code yn_F_proveLeaf cn_F_proveLeaf 5 (some .boolean)) ∈ gw_T := gw_in 386 rfl rfl
theorem mw_387 : (Cond.methodLink "WriteOnceVault$FedWords" 17 yn_E_digestCount) ∈ gw_T := gw_in 387 (by decide +kernel) rfl
theorem mw_388 : (Cond.methodLink "WriteOnceVault$FedWords" 23 yn_E_wentRightAbove) ∈ gw_T := gw_in 388 (by decide +kernel) rfl
theorem mw_389 : (Cond.instanceMethod yn_E_wentRightAbove) ∈ gw_T := gw_in 389 (by decide +kernel) rfl
theorem mw_390 : (Cond.selects "WriteOnceVault$Descent" yn_E_wentRightAbove yn_E_wentRightAbove) ∈ gw_T := gw_in 390 (by decide +kernel) rfl
set_option maxRecDepth 20000 in
theorem mw_391 : (Cond.code yn_E_wentRightAbove cn_E_wentRightAbove 3 (some .boolean)) ∈ gw_T := gw_in 391 rfl rfl
theorem mw_392 : (Cond.methodLink "WriteOnceVault$FedWords" 27 yn_H_node) ∈ gw_T := gw_in 392 (by decide +kernel) rfl
theorem mw_393 : (Cond.methodLink "WriteOnceVault" 143 yn_F_clear) ∈ gw_T := gw_in 393 (by decide +kernel) rfl
theorem mw_394 : (Cond.instanceMethod yn_F_clear) ∈ gw_T := gw_in 394 (by decide +kernel) rfl
theorem mw_395 : (Cond.selects "WriteOnceVault$FedWords" yn_F_clear yn_F_clear) ∈ gw_T := gw_in 395 (by decide +kernel) rfl
set_option maxRecDepth 20000 in
theorem mw_396 : (Cond.code yn_F_clear cn_F_clear 1 none) ∈ gw_T := gw_in 396 rfl rfl
theorem mw_397 : (Cond.methodLink "WriteOnceVaultLaw" 79 yn_X_extended) ∈ gw_T := gw_in 397 (by decide +kernel) rfl
theorem mw_398 : (Cond.instanceMethod yn_X_extended) ∈ gw_T := gw_in 398 (by decide +kernel) rfl
theorem mw_399 : (Cond.selects "WriteOnceVault" yn_X_extended yn_X_extended) ∈ gw_T := gw_in 399 (by decide +kernel) rfl
set_option maxRecDepth 20000 in
theorem mw_400 : (Cond.code yn_X_extended cn_X_extended 6 (some .boolean)) ∈ gw_T := gw_in 400 rfl rfl
theorem mw_401 : (Cond.methodLink "WriteOnceVault" 146 yn_F_proveGrowth) ∈ gw_T := gw_in 401 (by decide +kernel) rfl
theorem mw_402 : (Cond.instanceMethod yn_F_proveGrowth) ∈ gw_T := gw_in 402 (by decide +kernel) rfl
theorem mw_403 : (Cond.selects "WriteOnceVault$FedWords" yn_F_proveGrowth yn_F_proveGrowth) ∈ gw_T := gw_in 403 (by decide +kernel) rfl
set_option maxRecDepth 20000 in
theorem mw_404 : (Cond.code yn_F_proveGrowth cn_F_proveGrowth 8 (some .boolean)) ∈ gw_T := gw_in 404 rfl rfl
theorem mw_405 : (Cond.methodLink "WriteOnceVault$FedWords" 33 yn_E_showsFoot) ∈ gw_T := gw_in 405 (by decide +kernel) rfl
theorem mw_406 : (Cond.instanceMethod yn_E_showsFoot) ∈ gw_T := gw_in 406 (by decide +kernel) rfl
theorem mw_407 : (Cond.selects "WriteOnceVault$Descent" yn_E_showsFoot yn_E_showsFoot) ∈ gw_T := gw_in 407 (by decide +kernel) rfl
set_option maxRecDepth 20000 in
theorem mw_408 : (Cond.code yn_E_showsFoot cn_E_showsFoot 1 (some .boolean)) ∈ gw_T := gw_in 408 rfl rfl
theorem mw_409 : (Cond.methodLink "WriteOnceVaultLaw" 84 yn_X_word) ∈ gw_T := gw_in 409 (by decide +kernel) rfl
theorem mw_410 : (Cond.instanceMethod yn_X_word) ∈ gw_T := gw_in 410 (by decide +kernel) rfl
theorem mw_411 : (Cond.selects "WriteOnceVault" yn_X_word yn_X_word) ∈ gw_T := gw_in 411 (by decide +kernel) rfl
set_option maxRecDepth 20000 in
theorem mw_412 : (Cond.code yn_X_word cn_X_word 2 (some .long)) ∈ gw_T := gw_in 412 rfl rfl
theorem mw_413 : (Cond.methodLink "WriteOnceVault" 150 yn_G_hasPlace) ∈ gw_T := gw_in 413 (by decide +kernel) rfl
theorem mw_414 : (Cond.methodLink "WriteOnceVaultLaw" 88 yn_X_alter) ∈ gw_T := gw_in 414 (by decide +kernel) rfl
theorem mw_415 : (Cond.instanceMethod yn_X_alter) ∈ gw_T := gw_in 415 (by decide +kernel) rfl
theorem mw_416 : (Cond.selects "WriteOnceVault" yn_X_alter yn_X_alter) ∈ gw_T := gw_in 416 (by decide +kernel) rfl
set_option maxRecDepth 20000 in
theorem mw_417 : (Cond.code yn_X_alter cn_X_alter 3 (some .boolean)) ∈ gw_T := gw_in 417 rfl rfl
theorem mw_418 : (Cond.methodLink "WriteOnceVaultLaw" 93 yn_X_power) ∈ gw_T := gw_in 418 (by decide +kernel) rfl
theorem mw_419 : (Cond.instanceMethod yn_X_power) ∈ gw_T := gw_in 419 (by decide +kernel) rfl
theorem mw_420 : (Cond.selects "WriteOnceVault" yn_X_power yn_X_power) ∈ gw_T := gw_in 420 (by decide +kernel) rfl
set_option maxRecDepth 20000 in
theorem mw_421 : (Cond.code yn_X_power cn_X_power 2 (some .int)) ∈ gw_T := gw_in 421 rfl rfl
theorem mw_422 : (Cond.methodLink "WriteOnceVault" 156 yn_C_replay) ∈ gw_T := gw_in 422 (by decide +kernel) rfl
theorem mw_423 : (Cond.instanceMethod yn_C_replay) ∈ gw_T := gw_in 423 (by decide +kernel) rfl
theorem mw_424 : (Cond.selects "WriteOnceVault$Catalog" yn_C_replay yn_C_replay) ∈ gw_T := gw_in 424 (by decide +kernel) rfl
set_option maxRecDepth 20000 in
theorem mw_425 : (Cond.code yn_C_replay cn_C_replay 4 none) ∈ gw_T := gw_in 425 rfl rfl
theorem mw_426 : (Cond.methodLink "WriteOnceVault$Catalog" 70 yn_C_isSoundNext) ∈ gw_T := gw_in 426 (by decide +kernel) rfl
theorem mw_428 : (Cond.instanceMethod yn_C_isSoundNext) ∈ gw_T := gw_in 428 (by decide +kernel) rfl
set_option maxRecDepth 20000 in
theorem mw_429 : (Cond.code yn_C_isSoundNext cn_C_isSoundNext 4 (some .boolean)) ∈ gw_T := gw_in 429 rfl rfl
theorem mw_430 : (Cond.methodLink "WriteOnceVault$Catalog" 82 yn_G_checkIsRight) ∈ gw_T := gw_in 430 (by decide +kernel) rfl
theorem mw_431 : (Cond.instanceMethod yn_G_checkIsRight) ∈ gw_T := gw_in 431 (by decide +kernel) rfl
theorem mw_432 : (Cond.selects "WriteOnceVault$Image" yn_G_checkIsRight yn_G_checkIsRight) ∈ gw_T := gw_in 432 (by decide +kernel) rfl
set_option maxRecDepth 20000 in
theorem mw_433 : (Cond.code yn_G_checkIsRight cn_G_checkIsRight 2 (some .boolean)) ∈ gw_T := gw_in 433 rfl rfl
theorem mw_434 : (Cond.methodLink "WriteOnceVault$Image" 29 yn_G_field) ∈ gw_T := gw_in 434 (by decide +kernel) rfl
theorem mw_435 : (Cond.methodLink "WriteOnceVault$Catalog" 85 yn_C_isTimely) ∈ gw_T := gw_in 435 (by decide +kernel) rfl
theorem mw_436 : (Cond.static yn_C_isTimely) ∈ gw_T := gw_in 436 (by decide +kernel) rfl
set_option maxRecDepth 20000 in
theorem mw_437 : (Cond.code yn_C_isTimely cn_C_isTimely 5 (some .boolean)) ∈ gw_T := gw_in 437 rfl rfl
theorem mw_438 : (Cond.methodLink "WriteOnceVault$Catalog" 76 yn_G_field) ∈ gw_T := gw_in 438 (by decide +kernel) rfl
theorem mw_439 : (Cond.methodLink "WriteOnceVault$Catalog" 88 yn_C_isWellFormed) ∈ gw_T := gw_in 439 (by decide +kernel) rfl
theorem mw_441 : (Cond.instanceMethod yn_C_isWellFormed) ∈ gw_T := gw_in 441 (by decide +kernel) rfl
set_option maxRecDepth 20000 in
theorem mw_442 : (Cond.code yn_C_isWellFormed cn_C_isWellFormed 5 (some .boolean)) ∈ gw_T := gw_in 442 rfl rfl
theorem mw_443 : (Cond.methodLink "WriteOnceVault$Catalog" 95 yn_C_nextId) ∈ gw_T := gw_in 443 (by decide +kernel) rfl
theorem mw_444 : (Cond.methodLink "WriteOnceVault$Catalog" 92 yn_C_verdict) ∈ gw_T := gw_in 444 (by decide +kernel) rfl
theorem mw_445 : (Cond.methodLink "WriteOnceVault$Catalog" 79 yn_C_enter) ∈ gw_T := gw_in 445 (by decide +kernel) rfl
theorem mw_446 : (Cond.methodLink "WriteOnceVault" 160 yn_X_wipeWhatIsNotSound) ∈ gw_T := gw_in 446 (by decide +kernel) rfl
theorem mw_448 : (Cond.instanceMethod yn_X_wipeWhatIsNotSound) ∈ gw_T := gw_in 448 (by decide +kernel) rfl
set_option maxRecDepth 20000 in
theorem mw_449 : (Cond.code yn_X_wipeWhatIsNotSound cn_X_wipeWhatIsNotSound 2 none) ∈ gw_T := gw_in 449 rfl rfl
theorem mw_450 : (Cond.methodLink "WriteOnceVault" 174 yn_G_wipeRecordsFrom) ∈ gw_T := gw_in 450 (by decide +kernel) rfl
theorem mw_451 : (Cond.instanceMethod yn_G_wipeRecordsFrom) ∈ gw_T := gw_in 451 (by decide +kernel) rfl
theorem mw_452 : (Cond.selects "WriteOnceVault$Image" yn_G_wipeRecordsFrom yn_G_wipeRecordsFrom) ∈ gw_T := gw_in 452 (by decide +kernel) rfl
set_option maxRecDepth 20000 in
theorem mw_453 : (Cond.code yn_G_wipeRecordsFrom cn_G_wipeRecordsFrom 4 none) ∈ gw_T := gw_in 453 rfl rfl
theorem mw_454 : (Cond.methodLink "WriteOnceVault$Image" 36 yn_G_store) ∈ gw_T := gw_in 454 (by decide +kernel) rfl
theorem mw_455 : (Cond.methodLink "WriteOnceVault" 178 yn_C_mayKeepKey) ∈ gw_T := gw_in 455 (by decide +kernel) rfl
theorem mw_456 : (Cond.instanceMethod yn_C_mayKeepKey) ∈ gw_T := gw_in 456 (by decide +kernel) rfl
theorem mw_457 : (Cond.selects "WriteOnceVault$Catalog" yn_C_mayKeepKey yn_C_mayKeepKey) ∈ gw_T := gw_in 457 (by decide +kernel) rfl
set_option maxRecDepth 20000 in
theorem mw_458 : (Cond.code yn_C_mayKeepKey cn_C_mayKeepKey 2 (some .boolean)) ∈ gw_T := gw_in 458 rfl rfl
theorem mw_459 : (Cond.methodLink "WriteOnceVaultLaw" 98 yn_X_cut) ∈ gw_T := gw_in 459 (by decide +kernel) rfl
theorem mw_460 : (Cond.instanceMethod yn_X_cut) ∈ gw_T := gw_in 460 (by decide +kernel) rfl
theorem mw_461 : (Cond.selects "WriteOnceVault" yn_X_cut yn_X_cut) ∈ gw_T := gw_in 461 (by decide +kernel) rfl
set_option maxRecDepth 20000 in
theorem mw_462 : (Cond.code yn_X_cut cn_X_cut 2 (some .boolean)) ∈ gw_T := gw_in 462 rfl rfl
theorem mw_463 : (Cond.methodLink "WriteOnceVaultLaw" 102 yn_X_audit) ∈ gw_T := gw_in 463 (by decide +kernel) rfl
theorem mw_464 : (Cond.instanceMethod yn_X_audit) ∈ gw_T := gw_in 464 (by decide +kernel) rfl
theorem mw_465 : (Cond.selects "WriteOnceVault" yn_X_audit yn_X_audit) ∈ gw_T := gw_in 465 (by decide +kernel) rfl
set_option maxRecDepth 20000 in
theorem mw_466 : (Cond.code yn_X_audit cn_X_audit 5 (some .int)) ∈ gw_T := gw_in 466 rfl rfl
theorem mw_467 : (Cond.classLink "WriteOnceVaultLaw" 10 "WriteOnceVaultModel") ∈ gw_T := gw_in 467 (by decide +kernel) rfl
theorem mw_468 : (Cond.instantiable "WriteOnceVaultModel" 19) ∈ gw_T := gw_in 468 (by decide +kernel) rfl
theorem mw_469 : (Cond.methodLink "WriteOnceVaultLaw" 12 yn_M_init) ∈ gw_T := gw_in 469 (by decide +kernel) rfl
theorem mw_470 : (Cond.instanceMethod yn_M_init) ∈ gw_T := gw_in 470 (by decide +kernel) rfl
set_option maxRecDepth 20000 in
theorem mw_471 : (Cond.code yn_M_init cn_M_init 1 none) ∈ gw_T := gw_in 471 rfl rfl
theorem mw_472 : (Cond.methodLink "WriteOnceVaultModel" 1 yn_O_init) ∈ gw_T := gw_in 472 (by decide +kernel) rfl
theorem mw_473 : (Cond.fieldLink "WriteOnceVaultModel" 7 "WriteOnceVaultModel" "image" "[I") ∈ gw_T := gw_in 473 (by decide +kernel) rfl
theorem mw_474 : (Cond.fieldLink "WriteOnceVaultModel" 86 "WriteOnceVaultModel" "clock" "I") ∈ gw_T := gw_in 474 (by decide +kernel) rfl
theorem mw_475 : (Cond.fieldLink "WriteOnceVaultModel" 38 "WriteOnceVaultModel" "on" "Z") ∈ gw_T := gw_in 475 (by decide +kernel) rfl
theorem mw_476 : (Cond.fieldLink "WriteOnceVaultModel" 42 "WriteOnceVaultModel" "left" "I") ∈ gw_T := gw_in 476 (by decide +kernel) rfl
theorem mw_477 : (Cond.fieldLink "WriteOnceVaultModel" 13 "WriteOnceVaultModel" "fed" "[I") ∈ gw_T := gw_in 477 (by decide +kernel) rfl
theorem mw_478 : (Cond.fieldLink "WriteOnceVaultModel" 132 "WriteOnceVaultModel" "feeds" "I") ∈ gw_T := gw_in 478 (by decide +kernel) rfl
theorem mw_479 : (Cond.fieldLink "WriteOnceVaultModel" 93 "WriteOnceVaultModel" "sound" "I") ∈ gw_T := gw_in 479 (by decide +kernel) rfl
theorem mw_480 : (Cond.fieldLink "WriteOnceVaultModel" 83 "WriteOnceVaultModel" "objects" "I") ∈ gw_T := gw_in 480 (by decide +kernel) rfl
theorem mw_481 : (Cond.fieldLink "WriteOnceVaultModel" 16 "WriteOnceVaultModel" "state" "[I") ∈ gw_T := gw_in 481 (by decide +kernel) rfl
theorem mw_482 : (Cond.fieldLink "WriteOnceVaultModel" 19 "WriteOnceVaultModel" "date" "[I") ∈ gw_T := gw_in 482 (by decide +kernel) rfl
theorem mw_483 : (Cond.fieldLink "WriteOnceVaultModel" 22 "WriteOnceVaultModel" "holds" "[I") ∈ gw_T := gw_in 483 (by decide +kernel) rfl
theorem mw_484 : (Cond.fieldLink "WriteOnceVaultModel" 58 "WriteOnceVaultModel" "steps" "I") ∈ gw_T := gw_in 484 (by decide +kernel) rfl
theorem mw_485 : (Cond.fieldLink "WriteOnceVaultModel" 25 "WriteOnceVaultModel" "otherFrom" "[I") ∈ gw_T := gw_in 485 (by decide +kernel) rfl
theorem mw_486 : (Cond.fieldLink "WriteOnceVaultModel" 28 "WriteOnceVaultModel" "otherCount" "[I") ∈ gw_T := gw_in 486 (by decide +kernel) rfl
theorem mw_487 : (Cond.fieldLink "WriteOnceVaultModel" 31 "WriteOnceVaultModel" "right" "[Z") ∈ gw_T := gw_in 487 (by decide +kernel) rfl
theorem mw_488 : (Cond.fieldLink "WriteOnceVaultModel" 68 "WriteOnceVaultModel" "endFrom" "I") ∈ gw_T := gw_in 488 (by decide +kernel) rfl
theorem mw_489 : (Cond.fieldLink "WriteOnceVaultModel" 71 "WriteOnceVaultModel" "endCount" "I") ∈ gw_T := gw_in 489 (by decide +kernel) rfl
theorem mw_490 : (Cond.fieldLink "WriteOnceVaultModel" 74 "WriteOnceVaultModel" "full" "Z") ∈ gw_T := gw_in 490 (by decide +kernel) rfl
theorem mw_491 : (Cond.fieldLink "WriteOnceVaultModel" 35 "WriteOnceVaultModel" "level" "[I") ∈ gw_T := gw_in 491 (by decide +kernel) rfl
theorem mw_492 : (Cond.lays "WriteOnceVaultModel" "WriteOnceVaultModel" "image" "[I") ∈ gw_T := gw_in 492 (by decide +kernel) rfl
theorem mw_494 : (Cond.lays "WriteOnceVaultModel" "WriteOnceVaultModel" "clock" "I") ∈ gw_T := gw_in 494 (by decide +kernel) rfl
theorem mw_496 : (Cond.lays "WriteOnceVaultModel" "WriteOnceVaultModel" "on" "Z") ∈ gw_T := gw_in 496 (by decide +kernel) rfl
theorem mw_498 : (Cond.lays "WriteOnceVaultModel" "WriteOnceVaultModel" "left" "I") ∈ gw_T := gw_in 498 (by decide +kernel) rfl
theorem mw_500 : (Cond.lays "WriteOnceVaultModel" "WriteOnceVaultModel" "fed" "[I") ∈ gw_T := gw_in 500 (by decide +kernel) rfl
theorem mw_502 : (Cond.lays "WriteOnceVaultModel" "WriteOnceVaultModel" "feeds" "I") ∈ gw_T := gw_in 502 (by decide +kernel) rfl
theorem mw_504 : (Cond.lays "WriteOnceVaultModel" "WriteOnceVaultModel" "sound" "I") ∈ gw_T := gw_in 504 (by decide +kernel) rfl
theorem mw_506 : (Cond.lays "WriteOnceVaultModel" "WriteOnceVaultModel" "objects" "I") ∈ gw_T := gw_in 506 (by decide +kernel) rfl
theorem mw_508 : (Cond.lays "WriteOnceVaultModel" "WriteOnceVaultModel" "state" "[I") ∈ gw_T := gw_in 508 (by decide +kernel) rfl
theorem mw_510 : (Cond.lays "WriteOnceVaultModel" "WriteOnceVaultModel" "date" "[I") ∈ gw_T := gw_in 510 (by decide +kernel) rfl
theorem mw_512 : (Cond.lays "WriteOnceVaultModel" "WriteOnceVaultModel" "holds" "[I") ∈ gw_T := gw_in 512 (by decide +kernel) rfl
theorem mw_514 : (Cond.lays "WriteOnceVaultModel" "WriteOnceVaultModel" "steps" "I") ∈ gw_T := gw_in 514 (by decide +kernel) rfl
theorem mw_516 : (Cond.lays "WriteOnceVaultModel" "WriteOnceVaultModel" "otherFrom" "[I") ∈ gw_T := gw_in 516 (by decide +kernel) rfl
theorem mw_518 : (Cond.lays "WriteOnceVaultModel" "WriteOnceVaultModel" "otherCount" "[I") ∈ gw_T := gw_in 518 (by decide +kernel) rfl
theorem mw_520 : (Cond.lays "WriteOnceVaultModel" "WriteOnceVaultModel" "right" "[Z") ∈ gw_T := gw_in 520 (by decide +kernel) rfl
theorem mw_522 : (Cond.lays "WriteOnceVaultModel" "WriteOnceVaultModel" "endFrom" "I") ∈ gw_T := gw_in 522 (by decide +kernel) rfl
theorem mw_524 : (Cond.lays "WriteOnceVaultModel" "WriteOnceVaultModel" "endCount" "I") ∈ gw_T := gw_in 524 (by decide +kernel) rfl
theorem mw_526 : (Cond.lays "WriteOnceVaultModel" "WriteOnceVaultModel" "full" "Z") ∈ gw_T := gw_in 526 (by decide +kernel) rfl
theorem mw_528 : (Cond.lays "WriteOnceVaultModel" "WriteOnceVaultModel" "level" "[I") ∈ gw_T := gw_in 528 (by decide +kernel) rfl
theorem mw_531 : (Cond.methodLink "WriteOnceVaultLaw" 17 yn_M_put) ∈ gw_T := gw_in 531 (by decide +kernel) rfl
theorem mw_532 : (Cond.instanceMethod yn_M_put) ∈ gw_T := gw_in 532 (by decide +kernel) rfl
theorem mw_533 : (Cond.selects "WriteOnceVaultModel" yn_M_put yn_M_put) ∈ gw_T := gw_in 533 (by decide +kernel) rfl
set_option maxRecDepth 20000 in
theorem mw_534 : (Cond.code yn_M_put cn_M_put 10 (some .int)) ∈ gw_T := gw_in 534 rfl rfl
theorem mw_535 : (Cond.methodLink "WriteOnceVaultModel" 111 yn_M_refusal) ∈ gw_T := gw_in 535 (by decide +kernel) rfl
theorem mw_537 : (Cond.instanceMethod yn_M_refusal) ∈ gw_T := gw_in 537 (by decide +kernel) rfl
set_option maxRecDepth 20000 in
theorem mw_538 : (Cond.code yn_M_refusal cn_M_refusal 5 (some .int)) ∈ gw_T := gw_in 538 rfl rfl
theorem mw_539 : (Cond.methodLink "WriteOnceVaultModel" 104 yn_M_goThrough) ∈ gw_T := gw_in 539 (by decide +kernel) rfl
theorem mw_541 : (Cond.instanceMethod yn_M_goThrough) ∈ gw_T := gw_in 541 (by decide +kernel) rfl
set_option maxRecDepth 20000 in
theorem mw_542 : (Cond.code yn_M_goThrough cn_M_goThrough 3 none) ∈ gw_T := gw_in 542 rfl rfl
theorem mw_543 : (Cond.methodLink "WriteOnceVaultModel" 96 yn_M_soundNext) ∈ gw_T := gw_in 543 (by decide +kernel) rfl
theorem mw_545 : (Cond.instanceMethod yn_M_soundNext) ∈ gw_T := gw_in 545 (by decide +kernel) rfl
set_option maxRecDepth 20000 in
theorem mw_546 : (Cond.code yn_M_soundNext cn_M_soundNext 8 (some .boolean)) ∈ gw_T := gw_in 546 rfl rfl
theorem mw_547 : (Cond.methodLink "WriteOnceVaultModel" 51 yn_M_leaf) ∈ gw_T := gw_in 547 (by decide +kernel) rfl
theorem mw_549 : (Cond.instanceMethod yn_M_leaf) ∈ gw_T := gw_in 549 (by decide +kernel) rfl
set_option maxRecDepth 20000 in
theorem mw_550 : (Cond.code yn_M_leaf cn_M_leaf 4 (some .int)) ∈ gw_T := gw_in 550 rfl rfl
theorem mw_551 : (Cond.methodLink "WriteOnceVaultModel" 47 yn_M_mix) ∈ gw_T := gw_in 551 (by decide +kernel) rfl
theorem mw_552 : (Cond.static yn_M_mix) ∈ gw_T := gw_in 552 (by decide +kernel) rfl
set_option maxRecDepth 20000 in
theorem mw_553 : (Cond.code yn_M_mix cn_M_mix 4 (some .int)) ∈ gw_T := gw_in 553 rfl rfl
theorem mw_554 : (Cond.constant "WriteOnceVaultModel" 46 (48271001)) ∈ gw_T := gw_in 554 (by decide +kernel) rfl
theorem mw_555 : (Cond.methodLink "WriteOnceVaultModel" 89 yn_M_rule) ∈ gw_T := gw_in 555 (by decide +kernel) rfl
theorem mw_557 : (Cond.instanceMethod yn_M_rule) ∈ gw_T := gw_in 557 (by decide +kernel) rfl
set_option maxRecDepth 20000 in
theorem mw_558 : (Cond.code yn_M_rule cn_M_rule 6 (some .int)) ∈ gw_T := gw_in 558 rfl rfl
theorem mw_559 : (Cond.constant "WriteOnceVaultModel" 82 (1000000)) ∈ gw_T := gw_in 559 (by decide +kernel) rfl
theorem mw_560 : (Cond.methodLink "WriteOnceVaultModel" 100 yn_M_apply) ∈ gw_T := gw_in 560 (by decide +kernel) rfl
theorem mw_562 : (Cond.instanceMethod yn_M_apply) ∈ gw_T := gw_in 562 (by decide +kernel) rfl
set_option maxRecDepth 20000 in
theorem mw_563 : (Cond.code yn_M_apply cn_M_apply 4 none) ∈ gw_T := gw_in 563 rfl rfl
theorem mw_564 : (Cond.methodLink "WriteOnceVaultModel" 107 yn_M_write) ∈ gw_T := gw_in 564 (by decide +kernel) rfl
theorem mw_566 : (Cond.instanceMethod yn_M_write) ∈ gw_T := gw_in 566 (by decide +kernel) rfl
set_option maxRecDepth 20000 in
theorem mw_567 : (Cond.code yn_M_write cn_M_write 3 none) ∈ gw_T := gw_in 567 rfl rfl
theorem mw_568 : (Cond.methodLink "WriteOnceVaultModel" 115 yn_M_enroll) ∈ gw_T := gw_in 568 (by decide +kernel) rfl
theorem mw_570 : (Cond.instanceMethod yn_M_enroll) ∈ gw_T := gw_in 570 (by decide +kernel) rfl
set_option maxRecDepth 20000 in
theorem mw_571 : (Cond.code yn_M_enroll cn_M_enroll 8 none) ∈ gw_T := gw_in 571 rfl rfl
theorem mw_572 : (Cond.methodLink "WriteOnceVaultLaw" 22 yn_M_extend) ∈ gw_T := gw_in 572 (by decide +kernel) rfl
theorem mw_573 : (Cond.instanceMethod yn_M_extend) ∈ gw_T := gw_in 573 (by decide +kernel) rfl
theorem mw_574 : (Cond.selects "WriteOnceVaultModel" yn_M_extend yn_M_extend) ∈ gw_T := gw_in 574 (by decide +kernel) rfl
set_option maxRecDepth 20000 in
theorem mw_575 : (Cond.code yn_M_extend cn_M_extend 3 (some .int)) ∈ gw_T := gw_in 575 rfl rfl
theorem mw_576 : (Cond.methodLink "WriteOnceVaultModel" 119 yn_M_plain) ∈ gw_T := gw_in 576 (by decide +kernel) rfl
theorem mw_578 : (Cond.instanceMethod yn_M_plain) ∈ gw_T := gw_in 578 (by decide +kernel) rfl
set_option maxRecDepth 20000 in
theorem mw_579 : (Cond.code yn_M_plain cn_M_plain 5 (some .int)) ∈ gw_T := gw_in 579 rfl rfl
theorem mw_580 : (Cond.methodLink "WriteOnceVaultLaw" 27 yn_M_hold) ∈ gw_T := gw_in 580 (by decide +kernel) rfl
theorem mw_581 : (Cond.instanceMethod yn_M_hold) ∈ gw_T := gw_in 581 (by decide +kernel) rfl
theorem mw_582 : (Cond.selects "WriteOnceVaultModel" yn_M_hold yn_M_hold) ∈ gw_T := gw_in 582 (by decide +kernel) rfl
set_option maxRecDepth 20000 in
theorem mw_583 : (Cond.code yn_M_hold cn_M_hold 4 (some .int)) ∈ gw_T := gw_in 583 rfl rfl
theorem mw_584 : (Cond.methodLink "WriteOnceVaultLaw" 32 yn_M_delete) ∈ gw_T := gw_in 584 (by decide +kernel) rfl
theorem mw_585 : (Cond.instanceMethod yn_M_delete) ∈ gw_T := gw_in 585 (by decide +kernel) rfl
theorem mw_586 : (Cond.selects "WriteOnceVaultModel" yn_M_delete yn_M_delete) ∈ gw_T := gw_in 586 (by decide +kernel) rfl
set_option maxRecDepth 20000 in
theorem mw_587 : (Cond.code yn_M_delete cn_M_delete 2 (some .int)) ∈ gw_T := gw_in 587 rfl rfl
theorem mw_588 : (Cond.methodLink "WriteOnceVaultLaw" 36 yn_M_shred) ∈ gw_T := gw_in 588 (by decide +kernel) rfl
theorem mw_589 : (Cond.instanceMethod yn_M_shred) ∈ gw_T := gw_in 589 (by decide +kernel) rfl
theorem mw_590 : (Cond.selects "WriteOnceVaultModel" yn_M_shred yn_M_shred) ∈ gw_T := gw_in 590 (by decide +kernel) rfl
set_option maxRecDepth 20000 in
theorem mw_591 : (Cond.code yn_M_shred cn_M_shred 2 (some .int)) ∈ gw_T := gw_in 591 rfl rfl
theorem mw_592 : (Cond.methodLink "WriteOnceVaultLaw" 40 yn_M_tick) ∈ gw_T := gw_in 592 (by decide +kernel) rfl
theorem mw_593 : (Cond.instanceMethod yn_M_tick) ∈ gw_T := gw_in 593 (by decide +kernel) rfl
theorem mw_594 : (Cond.selects "WriteOnceVaultModel" yn_M_tick yn_M_tick) ∈ gw_T := gw_in 594 (by decide +kernel) rfl
set_option maxRecDepth 20000 in
theorem mw_595 : (Cond.code yn_M_tick cn_M_tick 2 (some .int)) ∈ gw_T := gw_in 595 rfl rfl
theorem mw_596 : (Cond.methodLink "WriteOnceVaultLaw" 45 yn_M_get) ∈ gw_T := gw_in 596 (by decide +kernel) rfl
theorem mw_597 : (Cond.instanceMethod yn_M_get) ∈ gw_T := gw_in 597 (by decide +kernel) rfl
theorem mw_598 : (Cond.selects "WriteOnceVaultModel" yn_M_get yn_M_get) ∈ gw_T := gw_in 598 (by decide +kernel) rfl
set_option maxRecDepth 20000 in
theorem mw_599 : (Cond.code yn_M_get cn_M_get 6 (some .long)) ∈ gw_T := gw_in 599 rfl rfl
theorem mw_600 : (Cond.constantLong "WriteOnceVaultModel" 77 (1099511627776)) ∈ gw_T := gw_in 600 (by decide +kernel) rfl
theorem mw_601 : (Cond.methodLink "WriteOnceVaultLaw" 49 yn_M_look) ∈ gw_T := gw_in 601 (by decide +kernel) rfl
theorem mw_602 : (Cond.instanceMethod yn_M_look) ∈ gw_T := gw_in 602 (by decide +kernel) rfl
theorem mw_603 : (Cond.selects "WriteOnceVaultModel" yn_M_look yn_M_look) ∈ gw_T := gw_in 603 (by decide +kernel) rfl
set_option maxRecDepth 20000 in
theorem mw_604 : (Cond.code yn_M_look cn_M_look 3 (some .int)) ∈ gw_T := gw_in 604 rfl rfl
theorem mw_605 : (Cond.methodLink "WriteOnceVaultLaw" 54 yn_M_records) ∈ gw_T := gw_in 605 (by decide +kernel) rfl
theorem mw_606 : (Cond.instanceMethod yn_M_records) ∈ gw_T := gw_in 606 (by decide +kernel) rfl
theorem mw_607 : (Cond.selects "WriteOnceVaultModel" yn_M_records yn_M_records) ∈ gw_T := gw_in 607 (by decide +kernel) rfl
set_option maxRecDepth 20000 in
theorem mw_608 : (Cond.code yn_M_records cn_M_records 1 (some .int)) ∈ gw_T := gw_in 608 rfl rfl
theorem mw_609 : (Cond.methodLink "WriteOnceVaultLaw" 59 yn_M_root) ∈ gw_T := gw_in 609 (by decide +kernel) rfl
theorem mw_610 : (Cond.instanceMethod yn_M_root) ∈ gw_T := gw_in 610 (by decide +kernel) rfl
theorem mw_611 : (Cond.selects "WriteOnceVaultModel" yn_M_root yn_M_root) ∈ gw_T := gw_in 611 (by decide +kernel) rfl
set_option maxRecDepth 20000 in
theorem mw_612 : (Cond.code yn_M_root cn_M_root 2 (some .long)) ∈ gw_T := gw_in 612 rfl rfl
theorem mw_613 : (Cond.methodLink "WriteOnceVaultModel" 79 yn_M_tree) ∈ gw_T := gw_in 613 (by decide +kernel) rfl
theorem mw_615 : (Cond.instanceMethod yn_M_tree) ∈ gw_T := gw_in 615 (by decide +kernel) rfl
set_option maxRecDepth 20000 in
theorem mw_616 : (Cond.code yn_M_tree cn_M_tree 5 (some .int)) ∈ gw_T := gw_in 616 rfl rfl
theorem mw_617 : (Cond.methodLink "WriteOnceVaultModel" 55 yn_M_node) ∈ gw_T := gw_in 617 (by decide +kernel) rfl
theorem mw_618 : (Cond.static yn_M_node) ∈ gw_T := gw_in 618 (by decide +kernel) rfl
set_option maxRecDepth 20000 in
theorem mw_619 : (Cond.code yn_M_node cn_M_node 3 (some .int)) ∈ gw_T := gw_in 619 rfl rfl
theorem mw_620 : (Cond.methodLink "WriteOnceVaultLaw" 64 yn_M_path) ∈ gw_T := gw_in 620 (by decide +kernel) rfl
theorem mw_621 : (Cond.instanceMethod yn_M_path) ∈ gw_T := gw_in 621 (by decide +kernel) rfl
theorem mw_622 : (Cond.selects "WriteOnceVaultModel" yn_M_path yn_M_path) ∈ gw_T := gw_in 622 (by decide +kernel) rfl
set_option maxRecDepth 20000 in
theorem mw_623 : (Cond.code yn_M_path cn_M_path 4 (some .long)) ∈ gw_T := gw_in 623 rfl rfl
theorem mw_624 : (Cond.methodLink "WriteOnceVaultModel" 122 yn_M_wayToLeaf) ∈ gw_T := gw_in 624 (by decide +kernel) rfl
theorem mw_626 : (Cond.instanceMethod yn_M_wayToLeaf) ∈ gw_T := gw_in 626 (by decide +kernel) rfl
set_option maxRecDepth 20000 in
theorem mw_627 : (Cond.code yn_M_wayToLeaf cn_M_wayToLeaf 6 none) ∈ gw_T := gw_in 627 rfl rfl
theorem mw_628 : (Cond.methodLink "WriteOnceVaultModel" 61 yn_M_half) ∈ gw_T := gw_in 628 (by decide +kernel) rfl
theorem mw_629 : (Cond.static yn_M_half) ∈ gw_T := gw_in 629 (by decide +kernel) rfl
set_option maxRecDepth 20000 in
theorem mw_630 : (Cond.code yn_M_half cn_M_half 2 (some .int)) ∈ gw_T := gw_in 630 rfl rfl
theorem mw_631 : (Cond.methodLink "WriteOnceVaultModel" 64 yn_M_step) ∈ gw_T := gw_in 631 (by decide +kernel) rfl
theorem mw_633 : (Cond.instanceMethod yn_M_step) ∈ gw_T := gw_in 633 (by decide +kernel) rfl
set_option maxRecDepth 20000 in
theorem mw_634 : (Cond.code yn_M_step cn_M_step 4 none) ∈ gw_T := gw_in 634 rfl rfl
theorem mw_635 : (Cond.methodLink "WriteOnceVaultModel" 125 yn_M_digest) ∈ gw_T := gw_in 635 (by decide +kernel) rfl
theorem mw_637 : (Cond.instanceMethod yn_M_digest) ∈ gw_T := gw_in 637 (by decide +kernel) rfl
set_option maxRecDepth 20000 in
theorem mw_638 : (Cond.code yn_M_digest cn_M_digest 4 (some .long)) ∈ gw_T := gw_in 638 rfl rfl
theorem mw_639 : (Cond.methodLink "WriteOnceVaultLaw" 68 yn_M_bridge) ∈ gw_T := gw_in 639 (by decide +kernel) rfl
theorem mw_640 : (Cond.instanceMethod yn_M_bridge) ∈ gw_T := gw_in 640 (by decide +kernel) rfl
theorem mw_641 : (Cond.selects "WriteOnceVaultModel" yn_M_bridge yn_M_bridge) ∈ gw_T := gw_in 641 (by decide +kernel) rfl
set_option maxRecDepth 20000 in
theorem mw_642 : (Cond.code yn_M_bridge cn_M_bridge 4 (some .long)) ∈ gw_T := gw_in 642 rfl rfl
theorem mw_643 : (Cond.methodLink "WriteOnceVaultModel" 129 yn_M_wayToEnd) ∈ gw_T := gw_in 643 (by decide +kernel) rfl
theorem mw_645 : (Cond.instanceMethod yn_M_wayToEnd) ∈ gw_T := gw_in 645 (by decide +kernel) rfl
set_option maxRecDepth 20000 in
theorem mw_646 : (Cond.code yn_M_wayToEnd cn_M_wayToEnd 6 none) ∈ gw_T := gw_in 646 rfl rfl
theorem mw_647 : (Cond.methodLink "WriteOnceVaultLaw" 73 yn_M_feed) ∈ gw_T := gw_in 647 (by decide +kernel) rfl
theorem mw_648 : (Cond.instanceMethod yn_M_feed) ∈ gw_T := gw_in 648 (by decide +kernel) rfl
theorem mw_649 : (Cond.selects "WriteOnceVaultModel" yn_M_feed yn_M_feed) ∈ gw_T := gw_in 649 (by decide +kernel) rfl
set_option maxRecDepth 20000 in
theorem mw_650 : (Cond.code yn_M_feed cn_M_feed 2 (some .boolean)) ∈ gw_T := gw_in 650 rfl rfl
theorem mw_651 : (Cond.methodLink "WriteOnceVaultLaw" 78 yn_M_included) ∈ gw_T := gw_in 651 (by decide +kernel) rfl
theorem mw_652 : (Cond.instanceMethod yn_M_included) ∈ gw_T := gw_in 652 (by decide +kernel) rfl
theorem mw_653 : (Cond.selects "WriteOnceVaultModel" yn_M_included yn_M_included) ∈ gw_T := gw_in 653 (by decide +kernel) rfl
set_option maxRecDepth 20000 in
theorem mw_654 : (Cond.code yn_M_included cn_M_included 7 (some .boolean)) ∈ gw_T := gw_in 654 rfl rfl
theorem mw_655 : (Cond.methodLink "WriteOnceVaultLaw" 83 yn_M_extended) ∈ gw_T := gw_in 655 (by decide +kernel) rfl
theorem mw_656 : (Cond.instanceMethod yn_M_extended) ∈ gw_T := gw_in 656 (by decide +kernel) rfl
theorem mw_657 : (Cond.selects "WriteOnceVaultModel" yn_M_extended yn_M_extended) ∈ gw_T := gw_in 657 (by decide +kernel) rfl
set_option maxRecDepth 20000 in
theorem mw_658 : (Cond.code yn_M_extended cn_M_extended 10 (some .boolean)) ∈ gw_T := gw_in 658 rfl rfl
theorem mw_659 : (Cond.methodLink "WriteOnceVaultLaw" 87 yn_M_word) ∈ gw_T := gw_in 659 (by decide +kernel) rfl
theorem mw_660 : (Cond.instanceMethod yn_M_word) ∈ gw_T := gw_in 660 (by decide +kernel) rfl
theorem mw_661 : (Cond.selects "WriteOnceVaultModel" yn_M_word yn_M_word) ∈ gw_T := gw_in 661 (by decide +kernel) rfl
set_option maxRecDepth 20000 in
theorem mw_662 : (Cond.code yn_M_word cn_M_word 2 (some .long)) ∈ gw_T := gw_in 662 rfl rfl
theorem mw_663 : (Cond.methodLink "WriteOnceVaultLaw" 92 yn_M_alter) ∈ gw_T := gw_in 663 (by decide +kernel) rfl
theorem mw_664 : (Cond.instanceMethod yn_M_alter) ∈ gw_T := gw_in 664 (by decide +kernel) rfl
theorem mw_665 : (Cond.selects "WriteOnceVaultModel" yn_M_alter yn_M_alter) ∈ gw_T := gw_in 665 (by decide +kernel) rfl
set_option maxRecDepth 20000 in
theorem mw_666 : (Cond.code yn_M_alter cn_M_alter 3 (some .boolean)) ∈ gw_T := gw_in 666 rfl rfl
theorem mw_667 : (Cond.methodLink "WriteOnceVaultLaw" 97 yn_M_power) ∈ gw_T := gw_in 667 (by decide +kernel) rfl
theorem mw_668 : (Cond.instanceMethod yn_M_power) ∈ gw_T := gw_in 668 (by decide +kernel) rfl
theorem mw_669 : (Cond.selects "WriteOnceVaultModel" yn_M_power yn_M_power) ∈ gw_T := gw_in 669 (by decide +kernel) rfl
set_option maxRecDepth 20000 in
theorem mw_670 : (Cond.code yn_M_power cn_M_power 3 (some .int)) ∈ gw_T := gw_in 670 rfl rfl
theorem mw_671 : (Cond.methodLink "WriteOnceVaultLaw" 101 yn_M_cut) ∈ gw_T := gw_in 671 (by decide +kernel) rfl
theorem mw_672 : (Cond.instanceMethod yn_M_cut) ∈ gw_T := gw_in 672 (by decide +kernel) rfl
theorem mw_673 : (Cond.selects "WriteOnceVaultModel" yn_M_cut yn_M_cut) ∈ gw_T := gw_in 673 (by decide +kernel) rfl
set_option maxRecDepth 20000 in
theorem mw_674 : (Cond.code yn_M_cut cn_M_cut 2 (some .boolean)) ∈ gw_T := gw_in 674 rfl rfl
theorem mw_675 : (Cond.methodLink "WriteOnceVaultLaw" 105 yn_M_audit) ∈ gw_T := gw_in 675 (by decide +kernel) rfl
theorem mw_676 : (Cond.instanceMethod yn_M_audit) ∈ gw_T := gw_in 676 (by decide +kernel) rfl
theorem mw_677 : (Cond.selects "WriteOnceVaultModel" yn_M_audit yn_M_audit) ∈ gw_T := gw_in 677 (by decide +kernel) rfl
set_option maxRecDepth 20000 in
theorem mw_678 : (Cond.code yn_M_audit cn_M_audit 4 (some .int)) ∈ gw_T := gw_in 678 rfl rfl
theorem mv_0 : (Cond.selects "WriteOnceVault" yn_X_refusalOf yn_X_refusalOf) ∈ gw_T := gw_ip 0 (by decide +kernel) rfl
theorem mv_1 : (Cond.selects "WriteOnceVault$Catalog" yn_C_verdictOfKind yn_C_verdictOfKind) ∈ gw_T := gw_ip 1 (by decide +kernel) rfl
theorem mv_2 : (Cond.selects "WriteOnceVault$Catalog" yn_C_putVerdict yn_C_putVerdict) ∈ gw_T := gw_ip 2 (by decide +kernel) rfl
theorem mv_3 : (Cond.selects "WriteOnceVault$Catalog" yn_C_extendVerdict yn_C_extendVerdict) ∈ gw_T := gw_ip 3 (by decide +kernel) rfl
theorem mv_4 : (Cond.selects "WriteOnceVault$Catalog" yn_C_holdVerdict yn_C_holdVerdict) ∈ gw_T := gw_ip 4 (by decide +kernel) rfl
theorem mv_5 : (Cond.selects "WriteOnceVault$Catalog" yn_C_endVerdict yn_C_endVerdict) ∈ gw_T := gw_ip 5 (by decide +kernel) rfl
theorem mv_6 : (Cond.selects "WriteOnceVault" yn_X_draftRecord yn_X_draftRecord) ∈ gw_T := gw_ip 6 (by decide +kernel) rfl
theorem mv_7 : (Cond.selects "WriteOnceVault" yn_X_writeWord yn_X_writeWord) ∈ gw_T := gw_ip 7 (by decide +kernel) rfl
theorem mv_8 : (Cond.selects "WriteOnceVault" yn_X_writeDraft yn_X_writeDraft) ∈ gw_T := gw_ip 8 (by decide +kernel) rfl
theorem mv_9 : (Cond.selects "WriteOnceVault$Catalog" yn_C_addObject yn_C_addObject) ∈ gw_T := gw_ip 9 (by decide +kernel) rfl
theorem mv_10 : (Cond.selects "WriteOnceVault$Catalog" yn_C_changeObject yn_C_changeObject) ∈ gw_T := gw_ip 10 (by decide +kernel) rfl
theorem mv_11 : (Cond.selects "WriteOnceVault" yn_X_change yn_X_change) ∈ gw_T := gw_ip 11 (by decide +kernel) rfl
theorem mv_12 : (Cond.selects "WriteOnceVault$Image" yn_G_leaf yn_G_leaf) ∈ gw_T := gw_ip 12 (by decide +kernel) rfl
theorem mv_13 : (Cond.selects "WriteOnceVault$Image" yn_G_joinNeighbours yn_G_joinNeighbours) ∈ gw_T := gw_ip 13 (by decide +kernel) rfl
theorem mv_14 : (Cond.selects "WriteOnceVault$Descent" yn_E_goDown yn_E_goDown) ∈ gw_T := gw_ip 14 (by decide +kernel) rfl
theorem mv_15 : (Cond.selects "WriteOnceVault$Descent" yn_E_stepTowards yn_E_stepTowards) ∈ gw_T := gw_ip 15 (by decide +kernel) rfl
theorem mv_16 : (Cond.selects "WriteOnceVault" yn_X_digestOnTheWay yn_X_digestOnTheWay) ∈ gw_T := gw_ip 16 (by decide +kernel) rfl
theorem mv_17 : (Cond.selects "WriteOnceVault$Descent" yn_E_stepOf yn_E_stepOf) ∈ gw_T := gw_ip 17 (by decide +kernel) rfl
theorem mv_18 : (Cond.selects "WriteOnceVault$Catalog" yn_C_isSoundNext yn_C_isSoundNext) ∈ gw_T := gw_ip 18 (by decide +kernel) rfl
theorem mv_19 : (Cond.selects "WriteOnceVault$Catalog" yn_C_isWellFormed yn_C_isWellFormed) ∈ gw_T := gw_ip 19 (by decide +kernel) rfl
theorem mv_20 : (Cond.selects "WriteOnceVault" yn_X_wipeWhatIsNotSound yn_X_wipeWhatIsNotSound) ∈ gw_T := gw_ip 20 (by decide +kernel) rfl
theorem mv_21 : (Cond.selects "WriteOnceVaultModel" yn_M_refusal yn_M_refusal) ∈ gw_T := gw_ip 21 (by decide +kernel) rfl
theorem mv_22 : (Cond.selects "WriteOnceVaultModel" yn_M_goThrough yn_M_goThrough) ∈ gw_T := gw_ip 22 (by decide +kernel) rfl
theorem mv_23 : (Cond.selects "WriteOnceVaultModel" yn_M_soundNext yn_M_soundNext) ∈ gw_T := gw_ip 23 (by decide +kernel) rfl
theorem mv_24 : (Cond.selects "WriteOnceVaultModel" yn_M_leaf yn_M_leaf) ∈ gw_T := gw_ip 24 (by decide +kernel) rfl
theorem mv_25 : (Cond.selects "WriteOnceVaultModel" yn_M_rule yn_M_rule) ∈ gw_T := gw_ip 25 (by decide +kernel) rfl
theorem mv_26 : (Cond.selects "WriteOnceVaultModel" yn_M_apply yn_M_apply) ∈ gw_T := gw_ip 26 (by decide +kernel) rfl
theorem mv_27 : (Cond.selects "WriteOnceVaultModel" yn_M_write yn_M_write) ∈ gw_T := gw_ip 27 (by decide +kernel) rfl
theorem mv_28 : (Cond.selects "WriteOnceVaultModel" yn_M_enroll yn_M_enroll) ∈ gw_T := gw_ip 28 (by decide +kernel) rfl
theorem mv_29 : (Cond.selects "WriteOnceVaultModel" yn_M_plain yn_M_plain) ∈ gw_T := gw_ip 29 (by decide +kernel) rfl
theorem mv_30 : (Cond.selects "WriteOnceVaultModel" yn_M_tree yn_M_tree) ∈ gw_T := gw_ip 30 (by decide +kernel) rfl
theorem mv_31 : (Cond.selects "WriteOnceVaultModel" yn_M_wayToLeaf yn_M_wayToLeaf) ∈ gw_T := gw_ip 31 (by decide +kernel) rfl
theorem mv_32 : (Cond.selects "WriteOnceVaultModel" yn_M_step yn_M_step) ∈ gw_T := gw_ip 32 (by decide +kernel) rfl
theorem mv_33 : (Cond.selects "WriteOnceVaultModel" yn_M_digest yn_M_digest) ∈ gw_T := gw_ip 33 (by decide +kernel) rfl
theorem mv_34 : (Cond.selects "WriteOnceVaultModel" yn_M_wayToEnd yn_M_wayToEnd) ∈ gw_T := gw_ip 34 (by decide +kernel) rfl
theorem ml_C : ∀ w ∈ u_ws rn_C tn_C 6, w ∈ gw_T := List.forall_mem_cons.mpr ⟨mw_43, List.forall_mem_cons.mpr ⟨mw_45, List.forall_mem_cons.mpr ⟨mw_47, List.forall_mem_cons.mpr ⟨mw_49, List.forall_mem_cons.mpr ⟨mw_51, List.forall_mem_cons.mpr ⟨mw_53, fun _ h => absurd h List.not_mem_nil⟩⟩⟩⟩⟩⟩
theorem ml_E : ∀ w ∈ u_ws rn_E tn_E 7, w ∈ gw_T := List.forall_mem_cons.mpr ⟨mw_69, List.forall_mem_cons.mpr ⟨mw_71, List.forall_mem_cons.mpr ⟨mw_73, List.forall_mem_cons.mpr ⟨mw_75, List.forall_mem_cons.mpr ⟨mw_77, List.forall_mem_cons.mpr ⟨mw_79, List.forall_mem_cons.mpr ⟨mw_81, fun _ h => absurd h List.not_mem_nil⟩⟩⟩⟩⟩⟩⟩
theorem ml_F : ∀ w ∈ u_ws rn_F tn_F 2, w ∈ gw_T := List.forall_mem_cons.mpr ⟨mw_93, List.forall_mem_cons.mpr ⟨mw_95, fun _ h => absurd h List.not_mem_nil⟩⟩
theorem ml_G : ∀ w ∈ u_ws rn_G tn_G 2, w ∈ gw_T := List.forall_mem_cons.mpr ⟨mw_25, List.forall_mem_cons.mpr ⟨mw_27, fun _ h => absurd h List.not_mem_nil⟩⟩
theorem ml_X : ∀ w ∈ u_ws rn_X tn_X 9, w ∈ gw_T := List.forall_mem_cons.mpr ⟨mw_107, List.forall_mem_cons.mpr ⟨mw_109, List.forall_mem_cons.mpr ⟨mw_111, List.forall_mem_cons.mpr ⟨mw_113, List.forall_mem_cons.mpr ⟨mw_115, List.forall_mem_cons.mpr ⟨mw_117, List.forall_mem_cons.mpr ⟨mw_119, List.forall_mem_cons.mpr ⟨mw_121, List.forall_mem_cons.mpr ⟨mw_123, fun _ h => absurd h List.not_mem_nil⟩⟩⟩⟩⟩⟩⟩⟩⟩
theorem ml_M : ∀ w ∈ u_ws rn_M tn_M 19, w ∈ gw_T := List.forall_mem_cons.mpr ⟨mw_492, List.forall_mem_cons.mpr ⟨mw_494, List.forall_mem_cons.mpr ⟨mw_496, List.forall_mem_cons.mpr ⟨mw_498, List.forall_mem_cons.mpr ⟨mw_500, List.forall_mem_cons.mpr ⟨mw_502, List.forall_mem_cons.mpr ⟨mw_504, List.forall_mem_cons.mpr ⟨mw_506, List.forall_mem_cons.mpr ⟨mw_508, List.forall_mem_cons.mpr ⟨mw_510, List.forall_mem_cons.mpr ⟨mw_512, List.forall_mem_cons.mpr ⟨mw_514, List.forall_mem_cons.mpr ⟨mw_516, List.forall_mem_cons.mpr ⟨mw_518, List.forall_mem_cons.mpr ⟨mw_520, List.forall_mem_cons.mpr ⟨mw_522, List.forall_mem_cons.mpr ⟨mw_524, List.forall_mem_cons.mpr ⟨mw_526, List.forall_mem_cons.mpr ⟨mw_528, fun _ h => absurd h List.not_mem_nil⟩⟩⟩⟩⟩⟩⟩⟩⟩⟩⟩⟩⟩⟩⟩⟩⟩⟩⟩
end
section
/-! rows of my own over the kit's: numbers as nI, calls of contracts with a fixed frame -/
section GR
variable {p : Program} {l : Launch} {e : Env} {R : Room} {s : State} {m : MethodId} {args : Array Value} {below : List Frame} {meth : Method} {c : Code} {H : Heap} {locs : List Loc} {cells slots : Nat} {Q : State → Prop}
variable {cc : ByteArray} {pc : Nat} {ls : Array Slot} {rest : List Value}
theorem gr_addN (hx : p.tables.exec = Jvm.exec) (hb : c.code = cc) {x y : Int32} (a b : Nat) (ha : x = nI a) (hbb : y = nI b) (hdg : decode cc pc = .ok (.iadd, 1))
    (k : W p l e R s m args below meth c H locs cells slots Q (F0 m (pc + 1) ls (.int (nI (a + b)) :: rest))) : W p l e R s m args below meth c H locs cells slots Q (F0 m pc ls (.int y :: .int x :: rest)) := by
  subst ha hbb
  refine lv_iadd hx hb hdg ?_
  rw [nI_add]; exact k
theorem gr_subN (hx : p.tables.exec = Jvm.exec) (hb : c.code = cc) {x y : Int32} (a b : Nat) (ha : x = nI a) (hbb : y = nI b) (h : b ≤ a) (hdg : decode cc pc = .ok (.isub, 1))
    (k : W p l e R s m args below meth c H locs cells slots Q (F0 m (pc + 1) ls (.int (nI (a - b)) :: rest))) : W p l e R s m args below meth c H locs cells slots Q (F0 m pc ls (.int y :: .int x :: rest)) := by
  subst ha hbb
  refine lv_isub hx hb hdg ?_
  rw [pk_sub h]; exact k
theorem gr_mulN (hx : p.tables.exec = Jvm.exec) (hb : c.code = cc) {x y : Int32} (a b : Nat) (ha : x = nI a) (hbb : y = nI b) (hdg : decode cc pc = .ok (.imul, 1))
    (k : W p l e R s m args below meth c H locs cells slots Q (F0 m (pc + 1) ls (.int (nI (a * b)) :: rest))) : W p l e R s m args below meth c H locs cells slots Q (F0 m pc ls (.int y :: .int x :: rest)) := by
  subst ha hbb
  refine lv_imul hx hb hdg ?_
  rw [pk_mul]; exact k
theorem gr_divN (hx : p.tables.exec = Jvm.exec) (hb : c.code = cc) {x y : Int32} (a b : Nat) (ha : x = nI a) (hbb : y = nI b) (ha1 : a < 2 ^ 31) (hb0 : 0 < b) (hb1 : b < 2 ^ 31) (hdg : decode cc pc = .ok (.idiv, 1))
    (k : W p l e R s m args below meth c H locs cells slots Q (F0 m (pc + 1) ls (.int (nI (a / b)) :: rest))) : W p l e R s m args below meth c H locs cells slots Q (F0 m pc ls (.int y :: .int x :: rest)) := by
  subst ha hbb
  refine lv_idiv hx hb hdg (nI_ne0 hb0 hb1) ?_
  rw [pk_div ha1 hb0 hb1]; exact k
theorem gr_remN (hx : p.tables.exec = Jvm.exec) (hb : c.code = cc) {x y : Int32} (a b : Nat) (ha : x = nI a) (hbb : y = nI b) (ha1 : a < 2 ^ 31) (hb0 : 0 < b) (hb1 : b < 2 ^ 31) (hdg : decode cc pc = .ok (.irem, 1))
    (k : W p l e R s m args below meth c H locs cells slots Q (F0 m (pc + 1) ls (.int (nI (a % b)) :: rest))) : W p l e R s m args below meth c H locs cells slots Q (F0 m pc ls (.int y :: .int x :: rest)) := by
  subst ha hbb
  refine lv_irem hx hb hdg (nI_ne0 hb0 hb1) ?_
  rw [pk_rem ha1 hb0 hb1]; exact k
theorem gr_top {x y : Int32} (h : x = y) (k : W p l e R s m args below meth c H locs cells slots Q (F0 m pc ls (.int y :: rest))) : W p l e R s m args below meth c H locs cells slots Q (F0 m pc ls (.int x :: rest)) := h ▸ k
/-- branches over numbers -/
theorem gr_cge (hx : p.tables.exec = Jvm.exec) (hb : c.code = cc) {x y : Int32} (a b : Nat) (ha : x = nI a) (hbb : y = nI b) (ha1 : a < 2 ^ 31) (hb1 : b < 2 ^ 31) {off : Int} {tgt : Nat} (hdg : decode cc pc = .ok (.if_icmp .ge off, 3)) (ht : (pc : Int) + off = (tgt : Int))
    (kt : b ≤ a → W p l e R s m args below meth c H locs cells slots Q (F0 m tgt ls rest)) (kf : a < b → W p l e R s m args below meth c H locs cells slots Q (F0 m (pc + 3) ls rest)) : W p l e R s m args below meth c H locs cells slots Q (F0 m pc ls (.int y :: .int x :: rest)) := by
  subst ha hbb
  exact lv_icmp_ge hx hb hdg ht (fun h => kt ((nI_leI hb1 ha1).1 h)) (fun h => kf (Nat.lt_of_not_le fun q => h ((nI_leI hb1 ha1).2 q)))
theorem gr_clt (hx : p.tables.exec = Jvm.exec) (hb : c.code = cc) {x y : Int32} (a b : Nat) (ha : x = nI a) (hbb : y = nI b) (ha1 : a < 2 ^ 31) (hb1 : b < 2 ^ 31) {off : Int} {tgt : Nat} (hdg : decode cc pc = .ok (.if_icmp .lt off, 3)) (ht : (pc : Int) + off = (tgt : Int))
    (kt : a < b → W p l e R s m args below meth c H locs cells slots Q (F0 m tgt ls rest)) (kf : b ≤ a → W p l e R s m args below meth c H locs cells slots Q (F0 m (pc + 3) ls rest)) : W p l e R s m args below meth c H locs cells slots Q (F0 m pc ls (.int y :: .int x :: rest)) := by
  subst ha hbb
  exact lv_icmp_lt hx hb hdg ht (fun h => kt ((nI_ltI ha1 hb1).1 h)) (fun h => kf (Nat.le_of_not_lt fun q => h ((nI_ltI ha1 hb1).2 q)))
theorem gr_cgt (hx : p.tables.exec = Jvm.exec) (hb : c.code = cc) {x y : Int32} (a b : Nat) (ha : x = nI a) (hbb : y = nI b) (ha1 : a < 2 ^ 31) (hb1 : b < 2 ^ 31) {off : Int} {tgt : Nat} (hdg : decode cc pc = .ok (.if_icmp .gt off, 3)) (ht : (pc : Int) + off = (tgt : Int))
    (kt : b < a → W p l e R s m args below meth c H locs cells slots Q (F0 m tgt ls rest)) (kf : a ≤ b → W p l e R s m args below meth c H locs cells slots Q (F0 m (pc + 3) ls rest)) : W p l e R s m args below meth c H locs cells slots Q (F0 m pc ls (.int y :: .int x :: rest)) := by
  subst ha hbb
  exact lv_icmp_gt hx hb hdg ht (fun h => kt ((nI_ltI hb1 ha1).1 h)) (fun h => kf (Nat.le_of_not_lt fun q => h ((nI_ltI hb1 ha1).2 q)))
theorem gr_cle (hx : p.tables.exec = Jvm.exec) (hb : c.code = cc) {x y : Int32} (a b : Nat) (ha : x = nI a) (hbb : y = nI b) (ha1 : a < 2 ^ 31) (hb1 : b < 2 ^ 31) {off : Int} {tgt : Nat} (hdg : decode cc pc = .ok (.if_icmp .le off, 3)) (ht : (pc : Int) + off = (tgt : Int))
    (kt : a ≤ b → W p l e R s m args below meth c H locs cells slots Q (F0 m tgt ls rest)) (kf : b < a → W p l e R s m args below meth c H locs cells slots Q (F0 m (pc + 3) ls rest)) : W p l e R s m args below meth c H locs cells slots Q (F0 m pc ls (.int y :: .int x :: rest)) := by
  subst ha hbb
  exact lv_icmp_le hx hb hdg ht (fun h => kt ((nI_leI ha1 hb1).1 h)) (fun h => kf (Nat.lt_of_not_le fun q => h ((nI_leI ha1 hb1).2 q)))
theorem gr_ceq (hx : p.tables.exec = Jvm.exec) (hb : c.code = cc) {x y : Int32} (a b : Nat) (ha : x = nI a) (hbb : y = nI b) (ha1 : a < 2 ^ 31) (hb1 : b < 2 ^ 31) {off : Int} {tgt : Nat} (hdg : decode cc pc = .ok (.if_icmp .eq off, 3)) (ht : (pc : Int) + off = (tgt : Int))
    (kt : a = b → W p l e R s m args below meth c H locs cells slots Q (F0 m tgt ls rest)) (kf : a ≠ b → W p l e R s m args below meth c H locs cells slots Q (F0 m (pc + 3) ls rest)) : W p l e R s m args below meth c H locs cells slots Q (F0 m pc ls (.int y :: .int x :: rest)) := by
  subst ha hbb
  exact lv_icmp_eq hx hb hdg ht (fun h => kt ((nI_eq ha1 hb1).1 h)) (fun h => kf (fun q => h ((nI_eq ha1 hb1).2 q)))
theorem gr_cne (hx : p.tables.exec = Jvm.exec) (hb : c.code = cc) {x y : Int32} (a b : Nat) (ha : x = nI a) (hbb : y = nI b) (ha1 : a < 2 ^ 31) (hb1 : b < 2 ^ 31) {off : Int} {tgt : Nat} (hdg : decode cc pc = .ok (.if_icmp .ne off, 3)) (ht : (pc : Int) + off = (tgt : Int))
    (kt : a ≠ b → W p l e R s m args below meth c H locs cells slots Q (F0 m tgt ls rest)) (kf : a = b → W p l e R s m args below meth c H locs cells slots Q (F0 m (pc + 3) ls rest)) : W p l e R s m args below meth c H locs cells slots Q (F0 m pc ls (.int y :: .int x :: rest)) := by
  subst ha hbb
  exact lv_icmp_ne hx hb hdg ht (fun h => kt (fun q => h ((nI_eq ha1 hb1).2 q))) (fun h => kf ((nI_eq ha1 hb1).1 h))
/-- a number against nought -/
theorem gr_zge (hx : p.tables.exec = Jvm.exec) (hb : c.code = cc) {x : Int32} (a : Nat) (ha : x = nI a) (ha1 : a < 2 ^ 31) {off : Int} {tgt : Nat} (hdg : decode cc pc = .ok (.ifCond .ge off, 3)) (ht : (pc : Int) + off = (tgt : Int))
    (kt : W p l e R s m args below meth c H locs cells slots Q (F0 m tgt ls rest)) : W p l e R s m args below meth c H locs cells slots Q (F0 m pc ls (.int x :: rest)) := by
  subst ha
  exact lv_if_ge hx hb hdg ht (fun _ => kt) (fun h => absurd (nI_pos' ha1) h)
theorem gr_zlt (hx : p.tables.exec = Jvm.exec) (hb : c.code = cc) {x : Int32} (a : Nat) (ha : x = nI a) (ha1 : a < 2 ^ 31) {off : Int} {tgt : Nat} (hdg : decode cc pc = .ok (.ifCond .lt off, 3)) (ht : (pc : Int) + off = (tgt : Int))
    (kf : W p l e R s m args below meth c H locs cells slots Q (F0 m (pc + 3) ls rest)) : W p l e R s m args below meth c H locs cells slots Q (F0 m pc ls (.int x :: rest)) := by
  subst ha
  exact lv_if_lt hx hb hdg ht (fun h => absurd h (nI_pos ha1)) (fun _ => kf)
theorem gr_zgt (hx : p.tables.exec = Jvm.exec) (hb : c.code = cc) {x : Int32} (a : Nat) (ha : x = nI a) (ha1 : a < 2 ^ 31) {off : Int} {tgt : Nat} (hdg : decode cc pc = .ok (.ifCond .gt off, 3)) (ht : (pc : Int) + off = (tgt : Int))
    (kt : 0 < a → W p l e R s m args below meth c H locs cells slots Q (F0 m tgt ls rest)) (kf : a = 0 → W p l e R s m args below meth c H locs cells slots Q (F0 m (pc + 3) ls rest)) : W p l e R s m args below meth c H locs cells slots Q (F0 m pc ls (.int x :: rest)) := by
  subst ha
  exact lv_if_gt hx hb hdg ht (fun h => kt (by rw [← nI_0] at h; exact (nI_ltI (by decide) ha1).1 h)) (fun h => kf (Nat.eq_zero_of_not_pos fun q => h (by rw [← nI_0]; exact (nI_ltI (by decide) ha1).2 q)))
theorem gr_zle (hx : p.tables.exec = Jvm.exec) (hb : c.code = cc) {x : Int32} (a : Nat) (ha : x = nI a) (ha1 : a < 2 ^ 31) {off : Int} {tgt : Nat} (hdg : decode cc pc = .ok (.ifCond .le off, 3)) (ht : (pc : Int) + off = (tgt : Int))
    (kt : a = 0 → W p l e R s m args below meth c H locs cells slots Q (F0 m tgt ls rest)) (kf : 0 < a → W p l e R s m args below meth c H locs cells slots Q (F0 m (pc + 3) ls rest)) : W p l e R s m args below meth c H locs cells slots Q (F0 m pc ls (.int x :: rest)) := by
  subst ha
  exact lv_if_le hx hb hdg ht (fun h => kt (by rw [← nI_0] at h; exact Nat.le_zero.1 ((nI_leI ha1 (by decide)).1 h))) (fun h => kf (Nat.pos_of_ne_zero fun q => h (by subst q; decide)))
theorem gr_zeq (hx : p.tables.exec = Jvm.exec) (hb : c.code = cc) {x : Int32} (a : Nat) (ha : x = nI a) (ha1 : a < 2 ^ 31) {off : Int} {tgt : Nat} (hdg : decode cc pc = .ok (.ifCond .eq off, 3)) (ht : (pc : Int) + off = (tgt : Int))
    (kt : a = 0 → W p l e R s m args below meth c H locs cells slots Q (F0 m tgt ls rest)) (kf : a ≠ 0 → W p l e R s m args below meth c H locs cells slots Q (F0 m (pc + 3) ls rest)) : W p l e R s m args below meth c H locs cells slots Q (F0 m pc ls (.int x :: rest)) := by
  subst ha
  exact lv_if_eq hx hb hdg ht (fun h => kt (by rw [← nI_0] at h; exact (nI_eq ha1 (by decide)).1 h)) (fun h => kf (fun q => h (by subst q; rfl)))
theorem gr_zne (hx : p.tables.exec = Jvm.exec) (hb : c.code = cc) {x : Int32} (a : Nat) (ha : x = nI a) (ha1 : a < 2 ^ 31) {off : Int} {tgt : Nat} (hdg : decode cc pc = .ok (.ifCond .ne off, 3)) (ht : (pc : Int) + off = (tgt : Int))
    (kt : a ≠ 0 → W p l e R s m args below meth c H locs cells slots Q (F0 m tgt ls rest)) (kf : a = 0 → W p l e R s m args below meth c H locs cells slots Q (F0 m (pc + 3) ls rest)) : W p l e R s m args below meth c H locs cells slots Q (F0 m pc ls (.int x :: rest)) := by
  subst ha
  exact lv_if_ne hx hb hdg ht (fun h => kt (fun q => h (by subst q; rfl))) (fun h => kf (by rw [← nI_0] at h; exact (nI_eq ha1 (by decide)).1 h))
end GR
section GA
variable {p : Program} {l : Launch} {e : Env} {R : Room} {s : State} {m : MethodId} {args : Array Value} {below : List Frame} {meth : Method} {c : Code} {H : Heap} {locs : List Loc} {cells slots : Nat} {Q : State → Prop}
variable {cc : ByteArray} {pc : Nat} {ls : Array Slot} {rest : List Value} {D : va_G} {cl : List vw_C} {A : Nat → Prop} {a : Nat} {tys : List (ClassId × FieldType)} {ws : va_W} {H0 : Heap}
theorem gr_iald (hx : p.tables.exec = Jvm.exec) (hb : c.code = cc) (hK : va_K D cl tys s) (hP : va_P D cl ws H) (q0 t0 : Nat) {cA : ClassId} {n : Nat} {f : Nat → Int32} (ha : ws[q0]? = some (a, .inl (cA, n, .inl f))) (ht : tys[t0]? = some (cA, .int)) {i : Int32} (k : Nat) (hi : i = nI k) (hk : k < n) (hn : n < 2 ^ 31) (hdg : decode cc pc = .ok (.iaload, 1))
    (kk : W p l e R s m args below meth c H locs cells slots Q (F0 m (pc + 1) ls (.int (f k) :: rest))) : W p l e R s m args below meth c H locs cells slots Q (F0 m pc ls (.int i :: .ref a :: rest)) := by
  subst hi
  refine va_iald hx hb hK hP q0 t0 ha ht (vp_in_nI hk hn) hdg ?_
  rw [nI_clamp (Nat.lt_trans hk hn)]; exact kk
theorem gr_zald (hx : p.tables.exec = Jvm.exec) (hb : c.code = cc) (hK : va_K D cl tys s) (hP : va_P D cl ws H) (q0 t0 : Nat) {cA : ClassId} {n : Nat} {f : Nat → Int32} (ha : ws[q0]? = some (a, .inl (cA, n, .inl f))) (ht : tys[t0]? = some (cA, .boolean)) {i : Int32} (k : Nat) (hi : i = nI k) (hk : k < n) (hn : n < 2 ^ 31) (hdg : decode cc pc = .ok (.baload, 1))
    (kk : W p l e R s m args below meth c H locs cells slots Q (F0 m (pc + 1) ls (.int (f k) :: rest))) : W p l e R s m args below meth c H locs cells slots Q (F0 m pc ls (.int i :: .ref a :: rest)) := by
  subst hi
  refine va_zald hx hb hK hP q0 t0 ha ht (vp_in_nI hk hn) hdg ?_
  rw [nI_clamp (Nat.lt_trans hk hn)]; exact kk
theorem gr_iast (hx : p.tables.exec = Jvm.exec) (hb : c.code = cc) (hK : va_K D cl tys s) (hP : va_P D cl ws H) (hD : va_D A ws) (hS : va_S A H0 H locs) (q0 t0 : Nat) {cA : ClassId} {n : Nat} {f : Nat → Int32} (ha : ws[q0]? = some (a, .inl (cA, n, .inl f))) (ht : tys[t0]? = some (cA, .int)) {i x : Int32} (k : Nat) (hi : i = nI k) (hk : k < n) (hn : n < 2 ^ 31) (hdg : decode cc pc = .ok (.iastore, 1))
    (kk : ∀ (H1 : Heap) (locs1 : List Loc), va_P D cl (ws.set q0 (a, .inl (cA, n, .inl (upd f k x)))) H1 → va_D A (ws.set q0 (a, .inl (cA, n, .inl (upd f k x)))) → va_S A H0 H1 locs1 → W p l e R s m args below meth c H1 locs1 cells slots Q (F0 m (pc + 1) ls rest)) : W p l e R s m args below meth c H locs cells slots Q (F0 m pc ls (.int x :: .int i :: .ref a :: rest)) := by
  subst hi
  refine va_iast hx hb hK hP hD hS q0 t0 ha ht (vp_in_nI hk hn) hdg ?_
  rw [nI_clamp (Nat.lt_trans hk hn)]; exact kk
theorem gr_zast (hx : p.tables.exec = Jvm.exec) (hb : c.code = cc) (hK : va_K D cl tys s) (hP : va_P D cl ws H) (hD : va_D A ws) (hS : va_S A H0 H locs) (q0 t0 : Nat) {cA : ClassId} {n : Nat} {f : Nat → Int32} (ha : ws[q0]? = some (a, .inl (cA, n, .inl f))) (ht : tys[t0]? = some (cA, .boolean)) {i x : Int32} (k : Nat) (hi : i = nI k) (hk : k < n) (hn : n < 2 ^ 31) (hz : vp_nar .boolean x = x) (hdg : decode cc pc = .ok (.bastore, 1))
    (kk : ∀ (H1 : Heap) (locs1 : List Loc), va_P D cl (ws.set q0 (a, .inl (cA, n, .inl (upd f k x)))) H1 → va_D A (ws.set q0 (a, .inl (cA, n, .inl (upd f k x)))) → va_S A H0 H1 locs1 → W p l e R s m args below meth c H1 locs1 cells slots Q (F0 m (pc + 1) ls rest)) : W p l e R s m args below meth c H locs cells slots Q (F0 m pc ls (.int x :: .int i :: .ref a :: rest)) := by
  subst hi
  refine va_zast hx hb hK hP hD hS q0 t0 ha ht (vp_in_nI hk hn) hdg ?_
  rw [nI_clamp (Nat.lt_trans hk hn), hz]; exact kk
end GA
end
section
/-! contracts with a fixed frame, and calls of them: the callee's cells stand together in the caller's list -/
theorem gc_Pm {D : va_G} {cl : List vw_C} {ws : va_W} {H : Heap} : va_P D cl ws H ↔ ∀ q ∈ ws, va_at D cl q H :=
  ⟨fun h q hq => by obtain ⟨k, hk⟩ := List.getElem?_of_mem hq; exact h k q hk, fun h _ q hk => h q (List.mem_of_getElem? hk)⟩
theorem gc_Dm {A : Nat → Prop} {ws : va_W} : va_D A ws ↔ (ws.map (·.1)).Nodup ∧ ∀ q ∈ ws, A q.1 := by
  constructor
  · intro h
    refine ⟨?_, fun q hq => by obtain ⟨k, hk⟩ := List.getElem?_of_mem hq; exact h.2 k q hk⟩
    rw [List.Nodup, List.pairwise_iff_getElem]
    intro i j hi hj hij he
    rw [List.length_map] at hi hj
    rw [List.getElem_map, List.getElem_map] at he
    have := h.1 i j ws[i] ws[j] (List.getElem?_eq_getElem hi) (List.getElem?_eq_getElem hj) he
    omega
  · intro h
    refine ⟨fun i j x y hi hj he => ?_, fun k q hk => h.2 q (List.mem_of_getElem? hk)⟩
    have h1 := h.1
    rw [List.Nodup, List.pairwise_iff_getElem] at h1
    obtain ⟨li, ei⟩ := List.getElem?_eq_some_iff.mp hi
    obtain ⟨lj, ej⟩ := List.getElem?_eq_some_iff.mp hj
    rcases Nat.lt_trichotomy i j with hlt | rfl | hlt
    · exact absurd (by rw [List.getElem_map, List.getElem_map, ei, ej]; exact he) (h1 i j (by rw [List.length_map]; exact li) (by rw [List.length_map]; exact lj) hlt)
    · rfl
    · exact absurd (by rw [List.getElem_map, List.getElem_map, ei, ej]; exact he.symm) (h1 j i (by rw [List.length_map]; exact lj) (by rw [List.length_map]; exact li) hlt)
theorem gc_Am {ws : va_W} {sz q : Nat} : va_A ws sz q ↔ (∃ e, (q, e) ∈ ws) ∨ sz ≤ q := by
  constructor
  · rintro (⟨k, e, h⟩ | h)
    · exact Or.inl ⟨e, List.mem_of_getElem? h⟩
    · exact Or.inr h
  · rintro (⟨e, h⟩ | h)
    · obtain ⟨k, hk⟩ := List.getElem?_of_mem h
      exact Or.inl ⟨k, e, hk⟩
    · exact Or.inr h
theorem gc_free {A : Nat → Prop} {pre wc po : va_W} {H0 H : Heap} {locs : List Loc} (hD : va_D A (pre ++ wc ++ po)) (hS : va_S A H0 H locs) (hA : ∀ q, H0.size ≤ q → A q) : ∀ q, va_A wc H.size q → A q := by
  intro q h
  rcases gc_Am.1 h with ⟨e, h⟩ | h
  · exact (gc_Dm.1 hD).2 (q, e) (by simp [h])
  · exact hA q (Nat.le_trans hS.1 h)
theorem gc_mid {D : va_G} {cl : List vw_C} {A : Nat → Prop} {pre wc po : va_W} {H : Heap} (hP : va_P D cl (pre ++ wc ++ po) H) (hD : va_D A (pre ++ wc ++ po)) : va_P D cl wc H ∧ va_D (fun _ => True) wc := by
  rw [gc_Pm] at hP ⊢
  rw [gc_Dm] at hD ⊢
  refine ⟨fun q hq => hP q (by simp [hq]), ?_, fun _ _ => trivial⟩
  have h1 := hD.1
  rw [List.map_append, List.map_append, List.nodup_append, List.nodup_append] at h1
  exact h1.1.2.1
theorem gc_join {D : va_G} {cl : List vw_C} {A : Nat → Prop} {pre wc po w1 : va_W} {H H1 : Heap} (hP : va_P D cl (pre ++ wc ++ po) H) (hD : va_D A (pre ++ wc ++ po)) (hk : ∀ q : Nat, q < H.size → ¬ va_A wc H.size q → H1[q]? = H[q]?) (hF : ∀ q, va_A wc H.size q → A q) (hP1 : va_P D cl w1 H1) (hD1 : va_D (va_A wc H.size) w1) : va_P D cl (pre ++ w1 ++ po) H1 ∧ va_D A (pre ++ w1 ++ po) := by
  rw [gc_Pm] at hP hP1 ⊢
  rw [gc_Dm] at hD hD1 ⊢
  obtain ⟨hn, hm⟩ := hD
  rw [List.map_append, List.map_append, List.nodup_append, List.nodup_append] at hn
  obtain ⟨⟨n1, n2, n3⟩, n4, n5⟩ := hn
  have apart : ∀ q : Nat × va_E, q ∈ pre ∨ q ∈ po → q.1 < H.size ∧ ¬ va_A wc H.size q.1 := by
    intro q hq
    have hl : q.1 < H.size := (hP q (by rcases hq with h | h <;> simp [h])).lt
    refine ⟨hl, fun h => ?_⟩
    rcases gc_Am.1 h with ⟨e, h⟩ | h
    · rcases hq with hq | hq
      · exact n3 q.1 (List.mem_map.mpr ⟨q, hq, rfl⟩) q.1 (List.mem_map.mpr ⟨_, h, rfl⟩) rfl
      · exact n5 q.1 (List.mem_append_right _ (List.mem_map.mpr ⟨_, h, rfl⟩)) q.1 (List.mem_map.mpr ⟨q, hq, rfl⟩) rfl
    · omega
  refine ⟨fun q hq => ?_, ?_, fun q hq => ?_⟩
  · rcases List.mem_append.mp hq with hq | hq
    · rcases List.mem_append.mp hq with hq | hq
      · exact (hP q (by simp [hq])).kept (hk q.1 (apart q (Or.inl hq)).1 (apart q (Or.inl hq)).2)
      · exact hP1 q hq
    · exact (hP q (by simp [hq])).kept (hk q.1 (apart q (Or.inr hq)).1 (apart q (Or.inr hq)).2)
  · rw [List.map_append, List.map_append, List.nodup_append, List.nodup_append]
    refine ⟨⟨n1, hD1.1, fun a ha b hb hab => ?_⟩, n4, fun a ha b hb hab => ?_⟩
    · obtain ⟨x, hx, rfl⟩ := List.mem_map.mp ha
      obtain ⟨y, hy, rfl⟩ := List.mem_map.mp hb
      exact (apart x (Or.inl hx)).2 (by rw [hab]; exact hD1.2 y hy)
    · rcases List.mem_append.mp ha with ha | ha
      · exact n5 a (List.mem_append_left _ ha) b hb hab
      · obtain ⟨x, hx, rfl⟩ := List.mem_map.mp ha
        obtain ⟨y, hy, rfl⟩ := List.mem_map.mp hb
        exact (apart y (Or.inr hy)).2 (by rw [← hab]; exact hD1.2 x hx)
  · rcases List.mem_append.mp hq with hq | hq
    · rcases List.mem_append.mp hq with hq | hq
      · exact hm q (by simp [hq])
      · exact hF q.1 (hD1.2 q hq)
    · exact hm q (by simp [hq])
/-- a contract's start: the cells w, the tables -/
def gc_P (D : va_G) (cl : List vw_C) (tys : List (ClassId × FieldType)) (w : va_W) (sz : Nat) : State → Prop := fun U => U.heap.size = sz ∧ va_P D cl w U.heap ∧ va_K D cl tys U ∧ va_D (fun _ => True) w
/-- its end: the cells wf u -/
def gc_B (D : va_G) (cl : List vw_C) (tys : List (ClassId × FieldType)) (w : va_W) (sz : Nat) {S : Type} (wf : S → va_W) : S → State → Prop := fun u t => va_P D cl (wf u) t.heap ∧ va_K D cl tys t ∧ va_D (va_A w sz) (wf u)
def gc_I (l : Launch) (y : MethodName) (ws : List Cond) (rm : Room) (D : va_G) (cl : List vw_C) (tys : List (ClassId × FieldType)) (av : List Value) (w : va_W) {S : Type} (po : Int32 → S → Prop) (wf : S → va_W) : Prop := ∀ sz, Met l y ws rm (va_Pc av (gc_P D cl tys w sz)) (va_Qi po (gc_B D cl tys w sz wf) (va_A w sz)) 0 0 (va_A w sz)
def gc_L (l : Launch) (y : MethodName) (ws : List Cond) (rm : Room) (D : va_G) (cl : List vw_C) (tys : List (ClassId × FieldType)) (av : List Value) (w : va_W) {S : Type} (po : Int64 → S → Prop) (wf : S → va_W) : Prop := ∀ sz, Met l y ws rm (va_Pc av (gc_P D cl tys w sz)) (va_Ql po (gc_B D cl tys w sz wf) (va_A w sz)) 0 0 (va_A w sz)
def gc_V (l : Launch) (y : MethodName) (ws : List Cond) (rm : Room) (D : va_G) (cl : List vw_C) (tys : List (ClassId × FieldType)) (av : List Value) (w : va_W) {S : Type} (po : S → Prop) (wf : S → va_W) : Prop := ∀ sz, Met l y ws rm (va_Pc av (gc_P D cl tys w sz)) (va_Qv po (gc_B D cl tys w sz wf) (va_A w sz)) 0 0 (va_A w sz)
theorem gc_blind {D : va_G} {cl : List vw_C} {tys : List (ClassId × FieldType)} {w : va_W} {sz : Nat} {av : List Value} : FrameBlind (va_Pc av (gc_P D cl tys w sz)) := fun a U g mk q => by
  obtain ⟨q0, q1, qP, qK, qD⟩ := q
  exact ⟨q0, q1, qP, va_K.moved (u := U) (U := U.calling g mk a) (Vm.Alike.refl U.vm) qK, qD⟩
section GCC
variable {p : Program} {l : Launch} {e : Env} {R : Room} {s : State} {m : MethodId} {args : Array Value} {below : List Frame} {meth : Method} {c : Code} {H : Heap} {locs : List Loc} {cells slots : Nat} {Q : State → Prop}
variable {y : MethodName} {bytes cc : ByteArray} {maxL nL n index pc : Nat} {ret : Option FieldType} {ws Ts : List Cond} {rm : Room} {own C : String} {b : Addr} {As rest st0 : List Value} {ls : Array Slot} {D : va_G} {cl : List vw_C} {tys : List (ClassId × FieldType)} {A : Nat → Prop} {H0 : Heap} {pre wc po : va_W} {S : Type} {wf : S → va_W}
theorem gc_preV {av : List Value} (hK : va_K D cl tys s) (hP : va_P D cl (pre ++ wc ++ po) H) (hD : va_D A (pre ++ wc ++ po)) {ci : Nat} {q : vw_C} {fs : List Value} (hc : cl[ci]? = some q) (hq : q.1 = C) (he : wc[0]? = some (b, .inr (ci, fs))) (ha : av = .ref b :: As) : PreV s H C b (va_Pc av (gc_P D cl tys wc H.size)) As := by
  subst ha hq
  obtain ⟨h1, h2⟩ := gc_mid hP hD
  exact ⟨gc_blind, va_recv hK h1 hc he, fun U hU hW => ⟨rfl, by rw [hU], by rw [hU]; exact h1, va_K.moved hW.alike hK, h2⟩⟩
theorem gc_preS (hK : va_K D cl tys s) (hP : va_P D cl (pre ++ wc ++ po) H) (hD : va_D A (pre ++ wc ++ po)) : PreS s H (va_Pc As (gc_P D cl tys wc H.size)) As := by
  obtain ⟨h1, h2⟩ := gc_mid hP hD
  exact ⟨gc_blind, fun U hU hW => ⟨rfl, by rw [hU], by rw [hU]; exact h1, va_K.moved hW.alike hK, h2⟩⟩
theorem gc_ci {a : Array Value} {post : Int32 → S → Prop} (hr : va_Run p l e R s m args below meth c H locs cells slots 0 0 (F0 m pc ls st0) rest (va_Qi post (gc_B D cl tys wc H.size wf) (va_A wc H.size) a) (va_A wc H.size)) (hP : va_P D cl (pre ++ wc ++ po) H) (hD : va_D A (pre ++ wc ++ po)) (hS : va_S A H0 H locs) (hA : ∀ q, H0.size ≤ q → A q)
    (kk : ∀ (r : Int32) (u : S) (H1 : Heap) (locs1 : List Loc), post r u → va_P D cl (pre ++ wf u ++ po) H1 → va_D A (pre ++ wf u ++ po) → va_S A H0 H1 locs1 → W p l e R s m args below meth c H1 locs1 cells slots Q (F0 m (pc + 3) ls (.int r :: rest))) : W p l e R s m args below meth c H locs cells slots Q (F0 m pc ls st0) := by
  have hF := gc_free hD hS hA
  refine va_calli hr hS (fun q _ h => hF q h) hF (fun r u t H1 locs1 ht hvm hp hB hz hk hS1 => ?_)
  obtain ⟨b1, -, b3⟩ := hB
  rw [ht] at b1
  obtain ⟨j1, j2⟩ := gc_join hP hD hk hF b1 b3
  exact kk r u H1 locs1 hp j1 j2 hS1
theorem gc_cl {a : Array Value} {post : Int64 → S → Prop} (hr : va_Run p l e R s m args below meth c H locs cells slots 0 0 (F0 m pc ls st0) rest (va_Ql post (gc_B D cl tys wc H.size wf) (va_A wc H.size) a) (va_A wc H.size)) (hP : va_P D cl (pre ++ wc ++ po) H) (hD : va_D A (pre ++ wc ++ po)) (hS : va_S A H0 H locs) (hA : ∀ q, H0.size ≤ q → A q)
    (kk : ∀ (r : Int64) (u : S) (H1 : Heap) (locs1 : List Loc), post r u → va_P D cl (pre ++ wf u ++ po) H1 → va_D A (pre ++ wf u ++ po) → va_S A H0 H1 locs1 → W p l e R s m args below meth c H1 locs1 cells slots Q (F0 m (pc + 3) ls (.long r :: rest))) : W p l e R s m args below meth c H locs cells slots Q (F0 m pc ls st0) := by
  have hF := gc_free hD hS hA
  refine va_calll hr hS (fun q _ h => hF q h) hF (fun r u t H1 locs1 ht hvm hp hB hz hk hS1 => ?_)
  obtain ⟨b1, -, b3⟩ := hB
  rw [ht] at b1
  obtain ⟨j1, j2⟩ := gc_join hP hD hk hF b1 b3
  exact kk r u H1 locs1 hp j1 j2 hS1
theorem gc_cv {a : Array Value} {post : S → Prop} (hr : va_Run p l e R s m args below meth c H locs cells slots 0 0 (F0 m pc ls st0) rest (va_Qv post (gc_B D cl tys wc H.size wf) (va_A wc H.size) a) (va_A wc H.size)) (hP : va_P D cl (pre ++ wc ++ po) H) (hD : va_D A (pre ++ wc ++ po)) (hS : va_S A H0 H locs) (hA : ∀ q, H0.size ≤ q → A q)
    (kk : ∀ (u : S) (H1 : Heap) (locs1 : List Loc), post u → va_P D cl (pre ++ wf u ++ po) H1 → va_D A (pre ++ wf u ++ po) → va_S A H0 H1 locs1 → W p l e R s m args below meth c H1 locs1 cells slots Q (F0 m (pc + 3) ls rest)) : W p l e R s m args below meth c H locs cells slots Q (F0 m pc ls st0) := by
  have hF := gc_free hD hS hA
  refine va_callv hr hS (fun q _ h => hF q h) hF (fun u t H1 locs1 ht hvm hp hB hz hk hS1 => ?_)
  obtain ⟨b1, -, b3⟩ := hB
  rw [ht] at b1
  obtain ⟨j1, j2⟩ := gc_join hP hD hk hF b1 b3
  exact kk u H1 locs1 hp j1 j2 hS1
/-- a virtual call of a contract that answers an int -/
theorem gc_vi {post : Int32 → S → Prop} (F : CallFix p m c cc nL s args Ts own) (hM : gc_I l y ws rm D cl tys (.ref b :: As) wc post wf) (cw : CallW R s args own C index y bytes maxL ret ws rm 0 0 n) {ci : Nat} {q : vw_C} {fs : List Value} (hc : cl[ci]? = some q) (hq : q.1 = C) (he : wc[0]? = some (b, .inr (ci, fs))) (hK : va_K D cl tys s) (hP : va_P D cl (pre ++ wc ++ po) H) (hD : va_D A (pre ++ wc ++ po)) (hS : va_S A H0 H locs) (hA : ∀ q, H0.size ≤ q → A q)
    (hn : As.length = n) (hsize : ls.size = nL) (hstack : st0 = As.reverse ++ .ref b :: rest) (hW : (rest.map fun v => v.category).sum ≤ 8) (hdg : decode cc pc = .ok (.invokevirtual index, 3)) (hf : cells ≤ R.cells ∧ slots ≤ R.slots)
    (kk : ∀ (r : Int32) (u : S) (H1 : Heap) (locs1 : List Loc), post r u → va_P D cl (pre ++ wf u ++ po) H1 → va_D A (pre ++ wf u ++ po) → va_S A H0 H1 locs1 → W p l e R s m args below meth c H1 locs1 cells slots Q (F0 m (pc + 3) ls (.int r :: rest))) : W p l e R s m args below meth c H locs cells slots Q (F0 m pc ls st0) :=
  gc_ci (va_runV F (hM H.size) cw (gc_preV hK hP hD hc hq he rfl) rfl hn hsize hstack (lv_room hW) hdg hf) hP hD hS hA kk
theorem gc_vl {post : Int64 → S → Prop} (F : CallFix p m c cc nL s args Ts own) (hM : gc_L l y ws rm D cl tys (.ref b :: As) wc post wf) (cw : CallW R s args own C index y bytes maxL ret ws rm 0 0 n) {ci : Nat} {q : vw_C} {fs : List Value} (hc : cl[ci]? = some q) (hq : q.1 = C) (he : wc[0]? = some (b, .inr (ci, fs))) (hK : va_K D cl tys s) (hP : va_P D cl (pre ++ wc ++ po) H) (hD : va_D A (pre ++ wc ++ po)) (hS : va_S A H0 H locs) (hA : ∀ q, H0.size ≤ q → A q)
    (hn : As.length = n) (hsize : ls.size = nL) (hstack : st0 = As.reverse ++ .ref b :: rest) (hW : (rest.map fun v => v.category).sum ≤ 8) (hdg : decode cc pc = .ok (.invokevirtual index, 3)) (hf : cells ≤ R.cells ∧ slots ≤ R.slots)
    (kk : ∀ (r : Int64) (u : S) (H1 : Heap) (locs1 : List Loc), post r u → va_P D cl (pre ++ wf u ++ po) H1 → va_D A (pre ++ wf u ++ po) → va_S A H0 H1 locs1 → W p l e R s m args below meth c H1 locs1 cells slots Q (F0 m (pc + 3) ls (.long r :: rest))) : W p l e R s m args below meth c H locs cells slots Q (F0 m pc ls st0) :=
  gc_cl (va_runV F (hM H.size) cw (gc_preV hK hP hD hc hq he rfl) rfl hn hsize hstack (lv_room hW) hdg hf) hP hD hS hA kk
theorem gc_vv {post : S → Prop} (F : CallFix p m c cc nL s args Ts own) (hM : gc_V l y ws rm D cl tys (.ref b :: As) wc post wf) (cw : CallW R s args own C index y bytes maxL ret ws rm 0 0 n) {ci : Nat} {q : vw_C} {fs : List Value} (hc : cl[ci]? = some q) (hq : q.1 = C) (he : wc[0]? = some (b, .inr (ci, fs))) (hK : va_K D cl tys s) (hP : va_P D cl (pre ++ wc ++ po) H) (hD : va_D A (pre ++ wc ++ po)) (hS : va_S A H0 H locs) (hA : ∀ q, H0.size ≤ q → A q)
    (hn : As.length = n) (hsize : ls.size = nL) (hstack : st0 = As.reverse ++ .ref b :: rest) (hW : (rest.map fun v => v.category).sum ≤ 8) (hdg : decode cc pc = .ok (.invokevirtual index, 3)) (hf : cells ≤ R.cells ∧ slots ≤ R.slots)
    (kk : ∀ (u : S) (H1 : Heap) (locs1 : List Loc), post u → va_P D cl (pre ++ wf u ++ po) H1 → va_D A (pre ++ wf u ++ po) → va_S A H0 H1 locs1 → W p l e R s m args below meth c H1 locs1 cells slots Q (F0 m (pc + 3) ls rest)) : W p l e R s m args below meth c H locs cells slots Q (F0 m pc ls st0) :=
  gc_cv (va_runV F (hM H.size) cw (gc_preV hK hP hD hc hq he rfl) rfl hn hsize hstack (lv_room hW) hdg hf) hP hD hS hA kk
/-- a static call -/
theorem gc_si {post : Int32 → S → Prop} (F : CallFix p m c cc nL s args Ts own) (hM : gc_I l y ws rm D cl tys As wc post wf) (cw : CallB R s args own index y bytes maxL ret ws rm 0 0 n ∧ (Cond.static y).before args s = true) (hK : va_K D cl tys s) (hP : va_P D cl (pre ++ wc ++ po) H) (hD : va_D A (pre ++ wc ++ po)) (hS : va_S A H0 H locs) (hA : ∀ q, H0.size ≤ q → A q)
    (hn : As.length = n) (hsize : ls.size = nL) (hstack : st0 = As.reverse ++ rest) (hW : (rest.map fun v => v.category).sum ≤ 8) (hdg : decode cc pc = .ok (.invokestatic index, 3)) (hf : cells ≤ R.cells ∧ slots ≤ R.slots)
    (kk : ∀ (r : Int32) (u : S) (H1 : Heap) (locs1 : List Loc), post r u → va_P D cl (pre ++ wf u ++ po) H1 → va_D A (pre ++ wf u ++ po) → va_S A H0 H1 locs1 → W p l e R s m args below meth c H1 locs1 cells slots Q (F0 m (pc + 3) ls (.int r :: rest))) : W p l e R s m args below meth c H locs cells slots Q (F0 m pc ls st0) :=
  gc_ci (va_runS F (hM H.size) cw (gc_preS hK hP hD) rfl hn hsize hstack (lv_room hW) hdg hf) hP hD hS hA kk
end GCC
section GCF
variable {p : Program} {l : Launch} {e : Env} {R : Room} {s : State} {m : MethodId} {args : Array Value} {below : List Frame} {meth : Method} {c : Code} {H : Heap} {locs : List Loc} {cells slots : Nat} {Q : State → Prop}
variable {y : MethodName} {bytes cc : ByteArray} {maxL nL n index pc : Nat} {ret : Option FieldType} {ws Ts : List Cond} {rm : Room} {own C : String} {As rest st0 : List Value} {ls : Array Slot} {D : va_G} {cl : List vw_C} {tys : List (ClassId × FieldType)} {A : Nat → Prop} {H0 : Heap} {w : va_W}
/-- a static call that reads and writes nothing: its answer is known -/
theorem gc_s0 {v : Int32} (F : CallFix p m c cc nL s args Ts own) (hM : gc_I l y ws rm D cl tys As [] (fun r (_ : Unit) => r = v) (fun _ => [])) (cw : CallB R s args own index y bytes maxL ret ws rm 0 0 n ∧ (Cond.static y).before args s = true) (hK : va_K D cl tys s) (hP : va_P D cl w H) (hD : va_D A w) (hS : va_S A H0 H locs) (hA : ∀ q, H0.size ≤ q → A q)
    (hn : As.length = n) (hsize : ls.size = nL) (hstack : st0 = As.reverse ++ rest) (hW : (rest.map fun v => v.category).sum ≤ 8) (hdg : decode cc pc = .ok (.invokestatic index, 3)) (hf : cells ≤ R.cells ∧ slots ≤ R.slots)
    (kk : ∀ (H1 : Heap) (locs1 : List Loc), va_P D cl w H1 → va_D A w → va_S A H0 H1 locs1 → W p l e R s m args below meth c H1 locs1 cells slots Q (F0 m (pc + 3) ls (.int v :: rest))) : W p l e R s m args below meth c H locs cells slots Q (F0 m pc ls st0) := by
  have e0 : w ++ [] ++ [] = w := by simp
  refine gc_si (pre := w) (wc := []) (po := []) F hM cw hK (by rw [e0]; exact hP) (by rw [e0]; exact hD) hS hA hn hsize hstack hW hdg hf (fun r u H1 locs1 hr h1 h2 h3 => ?_)
  rw [e0] at h1 h2
  subst hr
  exact kk H1 locs1 h1 h2 h3
end GCF
/-! from a body's walk to its contract -/
theorem gc_I_of {l : Launch} {y : MethodName} {ws ws' : List Cond} {rm : Room} {D : va_G} {cl : List vw_C} {tys : List (ClassId × FieldType)} {av : List Value} {w : va_W} {S : Type} {po : Int32 → S → Prop} {wf : S → va_W} {cc : ByteArray} {maxL : Nat} {ty : FieldType}
    (hy : plainName y.cls = true) (hw : ws = Cond.code y cc maxL (some ty) :: ws') (hlen : (lg_sl av).length ≤ maxL)
    (body : ∀ (p : Program) (e : Env) (s : State) (m : MethodId) (args : Array Value) (below : List Frame) (meth : Method) (c : Code) (A : Nat → Prop) (Q : State → Prop) (ls : Array Slot) (H0 H : Heap) (locs : List Loc), p.tables.exec = Jvm.exec → c.code = cc → c.maxLocals = maxL → s.vm.findClass y.cls = some m.cls → (∀ x ∈ ws, x.before args s = true) → va_K D cl tys s → va_P D cl w H → va_D A w → va_S A H0 H locs → (∀ q, H0.size ≤ q → A q) → lv_has ls maxL (lv_args 0 av) →
      (∀ (r : Int32) (u : S) (H : Heap) (locs : List Loc) (pc : Nat) (ls : Array Slot), po r u → narrow ty (.int r) = .int r → va_P D cl (wf u) H → va_D A (wf u) → va_S A H0 H locs → decode cc pc = .ok (.ireturn, 1) → W p l e (headSpec ws rm).room s m args below meth c H locs 0 0 Q (F0 m pc ls [.int r])) →
      W p l e (headSpec ws rm).room s m args below meth c H locs 0 0 Q (F0 m 0 ls [])) : gc_I l y ws rm D cl tys av w po wf := by
  intro sz
  refine Met.ofW (cc := cc) (maxL := maxL) (ret := some ty) hy hw ?_
  intro p e s m args below meth c s₁ B hml hv
  obtain ⟨rfl, hsz, hP, hK, hD0⟩ := hv
  subst hsz
  have hlocks := B.notSynchronized
  have hl := lv_entry av (n := maxL) hlen
  rw [lg_entry_eq]
  refine body p e s m _ below meth c (va_A w s.heap.size) _ _ s.heap s.heap [] B.exec B.bytes hml (findClass_of_methodNamed B.named) (atoms_spec (ws := ws) B.pre) hK hP hD0.self va_S.rf (fun q h => Or.inr h) hl ?_
  intro r u H locs pc ls hpo hn h1 h2 h3 hdg
  exact W.zret B.exec B.bytes B.returns hn (fun t ht hW => ⟨⟨r, u, rfl, hpo, by rw [ht]; exact h1, va_K.moved hW.alike hK, h2⟩, h3.F ht⟩) h3.2.2 hdg
theorem gc_L_of {l : Launch} {y : MethodName} {ws ws' : List Cond} {rm : Room} {D : va_G} {cl : List vw_C} {tys : List (ClassId × FieldType)} {av : List Value} {w : va_W} {S : Type} {po : Int64 → S → Prop} {wf : S → va_W} {cc : ByteArray} {maxL : Nat}
    (hy : plainName y.cls = true) (hw : ws = Cond.code y cc maxL (some .long) :: ws') (hlen : (lg_sl av).length ≤ maxL)
    (body : ∀ (p : Program) (e : Env) (s : State) (m : MethodId) (args : Array Value) (below : List Frame) (meth : Method) (c : Code) (A : Nat → Prop) (Q : State → Prop) (ls : Array Slot) (H0 H : Heap) (locs : List Loc), p.tables.exec = Jvm.exec → c.code = cc → c.maxLocals = maxL → s.vm.findClass y.cls = some m.cls → (∀ x ∈ ws, x.before args s = true) → va_K D cl tys s → va_P D cl w H → va_D A w → va_S A H0 H locs → (∀ q, H0.size ≤ q → A q) → lv_has ls maxL (lv_args 0 av) →
      (∀ (r : Int64) (u : S) (H : Heap) (locs : List Loc) (pc : Nat) (ls : Array Slot), po r u → va_P D cl (wf u) H → va_D A (wf u) → va_S A H0 H locs → decode cc pc = .ok (.lreturn, 1) → W p l e (headSpec ws rm).room s m args below meth c H locs 0 0 Q (F0 m pc ls [.long r])) →
      W p l e (headSpec ws rm).room s m args below meth c H locs 0 0 Q (F0 m 0 ls [])) : gc_L l y ws rm D cl tys av w po wf := by
  intro sz
  refine Met.ofW (cc := cc) (maxL := maxL) (ret := some .long) hy hw ?_
  intro p e s m args below meth c s₁ B hml hv
  obtain ⟨rfl, hsz, hP, hK, hD0⟩ := hv
  subst hsz
  have hlocks := B.notSynchronized
  have hl := lv_entry av (n := maxL) hlen
  rw [lg_entry_eq]
  refine body p e s m _ below meth c (va_A w s.heap.size) _ _ s.heap s.heap [] B.exec B.bytes hml (findClass_of_methodNamed B.named) (atoms_spec (ws := ws) B.pre) hK hP hD0.self va_S.rf (fun q h => Or.inr h) hl ?_
  intro r u H locs pc ls hpo h1 h2 h3 hdg
  exact W.lret B.exec B.bytes B.returns (fun t ht hW => ⟨⟨r, u, rfl, hpo, by rw [ht]; exact h1, va_K.moved hW.alike hK, h2⟩, h3.F ht⟩) h3.2.2 hdg
theorem gc_V_of {l : Launch} {y : MethodName} {ws ws' : List Cond} {rm : Room} {D : va_G} {cl : List vw_C} {tys : List (ClassId × FieldType)} {av : List Value} {w : va_W} {S : Type} {po : S → Prop} {wf : S → va_W} {cc : ByteArray} {maxL : Nat}
    (hy : plainName y.cls = true) (hw : ws = Cond.code y cc maxL none :: ws') (hlen : (lg_sl av).length ≤ maxL)
    (body : ∀ (p : Program) (e : Env) (s : State) (m : MethodId) (args : Array Value) (below : List Frame) (meth : Method) (c : Code) (A : Nat → Prop) (Q : State → Prop) (ls : Array Slot) (H0 H : Heap) (locs : List Loc), p.tables.exec = Jvm.exec → c.code = cc → c.maxLocals = maxL → s.vm.findClass y.cls = some m.cls → (∀ x ∈ ws, x.before args s = true) → va_K D cl tys s → va_P D cl w H → va_D A w → va_S A H0 H locs → (∀ q, H0.size ≤ q → A q) → lv_has ls maxL (lv_args 0 av) →
      (∀ (u : S) (H : Heap) (locs : List Loc) (pc : Nat) (ls : Array Slot), po u → va_P D cl (wf u) H → va_D A (wf u) → va_S A H0 H locs → decode cc pc = .ok (.return_, 1) → W p l e (headSpec ws rm).room s m args below meth c H locs 0 0 Q (F0 m pc ls [])) →
      W p l e (headSpec ws rm).room s m args below meth c H locs 0 0 Q (F0 m 0 ls [])) : gc_V l y ws rm D cl tys av w po wf := by
  intro sz
  refine Met.ofW (cc := cc) (maxL := maxL) (ret := none) hy hw ?_
  intro p e s m args below meth c s₁ B hml hv
  obtain ⟨rfl, hsz, hP, hK, hD0⟩ := hv
  subst hsz
  have hlocks := B.notSynchronized
  have hl := lv_entry av (n := maxL) hlen
  rw [lg_entry_eq]
  refine body p e s m _ below meth c (va_A w s.heap.size) _ _ s.heap s.heap [] B.exec B.bytes hml (findClass_of_methodNamed B.named) (atoms_spec (ws := ws) B.pre) hK hP hD0.self va_S.rf (fun q h => Or.inr h) hl ?_
  intro u H locs pc ls hpo h1 h2 h3 hdg
  exact W.vret B.exec B.bytes B.returns (fun t ht hW => ⟨⟨u, rfl, hpo, by rw [ht]; exact h1, va_K.moved hW.alike hK, h2⟩, h3.F ht⟩) h3.2.2 hdg
end
section
/-! pure words: what both sides compute -/
def hf_rot (a : Int32) : Int32 := a <<< ((11 : Int32) &&& 31) ||| (a.toUInt32 >>> ((21 : Int32).toUInt32 &&& Int32.toUInt32 31)).toInt32
def hf_y (a b : Int32) : Int32 := (hf_rot a ^^^ b) * 48271001 + 12345
def hf_mix (a b : Int32) : Int32 := hf_y a b ^^^ ((hf_y a b).toUInt32 >>> ((15 : Int32).toUInt32 &&& Int32.toUInt32 31)).toInt32
def hf_node (a b : Int32) : Int32 := hf_mix (hf_mix 2 a) b
def hf_pad (k id j : Int32) : Int32 := hf_mix (hf_mix k id) j
def hf_lf (f : Nat → Int32) (s : Nat) : Nat → Int32
  | 0 => 1
  | k + 1 => hf_mix (hf_lf f s k) (f (s + k))
def hf_leaf (f : Nat → Int32) (s : Nat) : Int32 := hf_lf f s 6
theorem hf_lf_congr {f g : Nat → Int32} {s t : Nat} : ∀ k, (∀ j, j < k → f (s + j) = g (t + j)) → hf_lf f s k = hf_lf g t k
  | 0, _ => rfl
  | k + 1, h => by
    rw [hf_lf, hf_lf, hf_lf_congr k (fun j hj => h j (by omega)), h k (by omega)]
/-- the tree: leaves, then neighbours joined in place -/
def tr_lv (f : Nat → Int32) (a : Nat) (g : Nat → Int32) (j : Nat) : Nat → Int32 := fun k => if k < j then hf_leaf f (7 * (a + k)) else g k
def tr_jp (g : Nat → Int32) (j : Nat) : Nat → Int32 := fun k => if k < j then hf_node (g (2 * k)) (g (2 * k + 1)) else g k
def tr_jn (w : Nat) (g : Nat → Int32) : Nat → Int32 := if w % 2 = 1 then upd (tr_jp g (w / 2)) (w / 2) (g (w - 1)) else tr_jp g (w / 2)
def tr_go : Nat → Nat → (Nat → Int32) → (Nat → Int32)
  | 0, _, g => g
  | n + 1, w, g => if w ≤ 1 then g else tr_go n ((w + 1) / 2) (tr_jn w g)
def tr_of (f g : Nat → Int32) (a c : Nat) : Nat → Int32 := tr_go 6 c (tr_lv f a g c)
theorem tr_lv_0 (f g : Nat → Int32) (a : Nat) : tr_lv f a g 0 = g := by
  funext k; simp [tr_lv]
theorem tr_lv_s (f g : Nat → Int32) (a j : Nat) : upd (tr_lv f a g j) j (hf_leaf f (7 * (a + j))) = tr_lv f a g (j + 1) := by
  funext k
  unfold upd tr_lv
  by_cases h : k = j
  · subst h; simp
  · by_cases h2 : k < j
    · simp [h, h2, Nat.lt_succ_of_lt h2]
    · have : ¬ k < j + 1 := by omega
      simp [h, h2, this]
theorem tr_jp_0 (g : Nat → Int32) : tr_jp g 0 = g := by
  funext k; simp [tr_jp]
theorem tr_jp_a (g : Nat → Int32) (j : Nat) : tr_jp g j (2 * j) = g (2 * j) := by
  unfold tr_jp; rw [if_neg (by omega)]
theorem tr_jp_b (g : Nat → Int32) (j : Nat) : tr_jp g j (2 * j + 1) = g (2 * j + 1) := by
  unfold tr_jp; rw [if_neg (by omega)]
theorem tr_jp_s (g : Nat → Int32) (j : Nat) : upd (tr_jp g j) j (hf_node (g (2 * j)) (g (2 * j + 1))) = tr_jp g (j + 1) := by
  funext k
  unfold upd tr_jp
  by_cases h : k = j
  · subst h; simp
  · by_cases h2 : k < j
    · simp [h, h2, Nat.lt_succ_of_lt h2]
    · have : ¬ k < j + 1 := by omega
      simp [h, h2, this]
theorem tr_jp_w (g : Nat → Int32) {w : Nat} (h : 2 ≤ w) : tr_jp g (w / 2) (w - 1) = g (w - 1) := by
  unfold tr_jp; rw [if_neg (by omega)]
theorem tr_go_1 (n : Nat) {w : Nat} (g : Nat → Int32) (h : w ≤ 1) : tr_go n w g = g := by
  cases n with
  | zero => rfl
  | succ n => rw [tr_go, if_pos h]
theorem tr_go_s {n w : Nat} (g : Nat → Int32) (h : 1 < w) (hn : w ≤ 2 ^ (n + 1)) : tr_go (n + 1) w g = tr_go n ((w + 1) / 2) (tr_jn w g) := by
  rw [tr_go, if_neg (by omega)]
/-- the objects: how many, their states, dates, holds, put records -/
abbrev ct_T : Type := Nat × (Nat → Int32) × (Nat → Int32) × (Nat → Int32) × (Nat → Int32)
abbrev ct_has (g v : Int32) : Prop := (g >>> (v &&& 31)) - (g >>> (v &&& 31)) / 2 * 2 = 1
/-- the first rule that a request breaks, or 0 -/
def ct_ru (ob : Nat) (S D G : Nat → Int32) (kind id v t : Int32) : Int32 :=
  if (kind = 1 ∨ kind = 2) ∧ (v < 0 ∨ 1000000 < v) then -1
  else if (kind = 3 ∨ kind = 4) ∧ (v < 0 ∨ 7 < v) then -1
  else if kind = 1 then (if v < t then -4 else if 12 ≤ ob then -8 else 0)
  else if id < 1 ∨ nI ob < id then -2
  else if (kind = 6 ∧ S id.toNatClampNeg = 3) ∨ (kind ≠ 6 ∧ S id.toNatClampNeg ≠ 1) then -3
  else if kind = 2 then (if v ≤ D id.toNatClampNeg then -4 else 0)
  else if 5 ≤ kind then (if G id.toNatClampNeg ≠ 0 then -6 else if t < D id.toNatClampNeg then -7 else 0)
  else if (ct_has (G id.toNatClampNeg) v ↔ kind = 3) then -5 else 0
/-- a record is entered -/
def ct_ap (C : ct_T) (r : Nat) (kind id v : Int32) : ct_T :=
  if kind = 1 then (C.1 + 1, upd C.2.1 (C.1 + 1) 1, upd C.2.2.1 (C.1 + 1) v, upd C.2.2.2.1 (C.1 + 1) 0, upd C.2.2.2.2 (C.1 + 1) (nI r))
  else if kind = 2 then (C.1, C.2.1, upd C.2.2.1 id.toNatClampNeg v, C.2.2.2.1, C.2.2.2.2)
  else if kind = 3 then (C.1, C.2.1, C.2.2.1, upd C.2.2.2.1 id.toNatClampNeg (C.2.2.2.1 id.toNatClampNeg + ((1 : Int32) <<< (v &&& 31))), C.2.2.2.2)
  else if kind = 4 then (C.1, C.2.1, C.2.2.1, upd C.2.2.2.1 id.toNatClampNeg (C.2.2.2.1 id.toNatClampNeg - ((1 : Int32) <<< (v &&& 31))), C.2.2.2.2)
  else (C.1, upd C.2.1 id.toNatClampNeg (kind - 3), C.2.2.1, C.2.2.2.1, C.2.2.2.2)
/-- the objects as the first n records of an image made them -/
def ct_st (f : Nat → Int32) : Nat → ct_T
  | 0 => (0, fun _ => 0, fun _ => 0, fun _ => 0, fun _ => 0)
  | n + 1 => ct_ap (ct_st f n) n (f (7 * n)) (f (7 * n + 1)) (f (7 * n + 2))
def ct_bf (f : Nat → Int32) (r : Nat) : Int32 := if r = 0 then 0 else f (7 * (r - 1) + 5)
def ct_ruC (C : ct_T) (kind id v t : Int32) : Int32 := ct_ru C.1 C.2.1 C.2.2.1 C.2.2.2.1 kind id v t
/-- record r is sound, all before it being so -/
def ct_ok (f : Nat → Int32) (k : Int32) (r : Nat) : Prop :=
  f (7 * r + 6) = (hf_leaf f (7 * r) ||| 1) ∧ 1 ≤ f (7 * r) ∧ f (7 * r) ≤ 6 ∧ ct_bf f r ≤ f (7 * r + 5) ∧ f (7 * r + 5) ≤ k ∧
  (f (7 * r) ≠ 1 → f (7 * r + 3) = 0 ∧ f (7 * r + 4) = 0) ∧ (5 ≤ f (7 * r) → f (7 * r + 2) = 0) ∧ (f (7 * r) = 1 → f (7 * r + 1) = nI ((ct_st f r).1 + 1)) ∧
  ct_ruC (ct_st f r) (f (7 * r)) (f (7 * r + 1)) (f (7 * r + 2)) (f (7 * r + 5)) = 0
/-- n records are sound, and no more -/
def ct_n (f : Nat → Int32) (k : Int32) (n : Nat) : Prop := n ≤ 40 ∧ (∀ r, r < n → ct_ok f k r) ∧ (n < 40 → ¬ ct_ok f k n)
theorem ct_n_uq {f : Nat → Int32} {k : Int32} {n n' : Nat} (h : ct_n f k n) (h' : ct_n f k n') : n = n' := by
  rcases Nat.lt_trichotomy n n' with q | q | q
  · exact absurd (h'.2.1 n q) (h.2.2 (by have := h'.1; omega))
  · exact q
  · exact absurd (h.2.1 n' q) (h'.2.2 (by have := h.1; omega))
/-- two pictures of the objects agree as far as there are objects -/
def ct_eq (C C' : ct_T) : Prop := C.1 = C'.1 ∧ ∀ j, 1 ≤ j → j ≤ C'.1 → C.2.1 j = C'.2.1 j ∧ C.2.2.1 j = C'.2.2.1 j ∧ C.2.2.2.1 j = C'.2.2.2.1 j ∧ C.2.2.2.2 j = C'.2.2.2.2 j
/-- the same without the put records -/
def ct_eqm (ob : Nat) (S D G : Nat → Int32) (C : ct_T) : Prop := ob = C.1 ∧ ∀ j, 1 ≤ j → j ≤ C.1 → S j = C.2.1 j ∧ D j = C.2.2.1 j ∧ G j = C.2.2.2.1 j
/-- an id that is there -/
theorem ct_id {ob : Nat} (ho : ob < 2 ^ 31) {id : Int32} (h1 : ¬ id < 1) (h2 : ¬ nI ob < id) : ∃ j, 1 ≤ j ∧ j ≤ ob ∧ id = nI j := by
  rw [Int32.lt_iff_toInt_lt] at h1 h2
  rw [nI_toInt ho] at h2
  have e1 : (1 : Int32).toInt = 1 := by decide
  rw [e1] at h1
  have h0 : ¬ id < 0 := by
    rw [Int32.lt_iff_toInt_lt]
    have e0 : (0 : Int32).toInt = 0 := by decide
    omega
  obtain ⟨j, hj, rfl⟩ := nI_of h0
  rw [nI_toInt hj] at h1 h2
  exact ⟨j, by omega, by omega, rfl⟩
theorem ct_ru_eqm {ob : Nat} {S D G : Nat → Int32} {C : ct_T} (h : ct_eqm ob S D G C) (ho : ob < 2 ^ 31) (kind id v t : Int32) : ct_ru ob S D G kind id v t = ct_ruC C kind id v t := by
  obtain ⟨rfl, h⟩ := h
  unfold ct_ruC ct_ru
  by_cases hi : id < 1 ∨ nI C.1 < id
  · simp only [hi, if_true]
  · obtain ⟨j, j1, j2, rfl⟩ := ct_id ho (fun q => hi (Or.inl q)) (fun q => hi (Or.inr q))
    obtain ⟨e1, e2, e3⟩ := h j j1 j2
    rw [nI_clamp (by omega), e1, e2, e3]
end
section
/-! the objects: what holds of them after sound records -/
theorem ct_st_cg {f g : Nat → Int32} {n : Nat} (h : ∀ j, j < 7 * n → f j = g j) : ∀ r, r ≤ n → ct_st f r = ct_st g r
  | 0, _ => rfl
  | r + 1, hr => by
    rw [ct_st, ct_st, ct_st_cg h r (by omega), h (7 * r) (by omega), h (7 * r + 1) (by omega), h (7 * r + 2) (by omega)]
theorem ct_ok_cg {f g : Nat → Int32} {n : Nat} (h : ∀ j, j < 7 * n → f j = g j) (k : Int32) {r : Nat} (hr : r < n) : ct_ok f k r ↔ ct_ok g k r := by
  have hb : ct_bf f r = ct_bf g r := by
    unfold ct_bf
    by_cases h0 : r = 0
    · rw [if_pos h0, if_pos h0]
    · rw [if_neg h0, if_neg h0, h _ (by omega)]
  have hl : hf_leaf f (7 * r) = hf_leaf g (7 * r) := hf_lf_congr 6 (fun j hj => h _ (by omega))
  unfold ct_ok
  rw [ct_st_cg h r (by omega), hb, hl, h (7 * r) (by omega), h (7 * r + 1) (by omega), h (7 * r + 2) (by omega), h (7 * r + 3) (by omega), h (7 * r + 4) (by omega), h (7 * r + 5) (by omega), h (7 * r + 6) (by omega)]
theorem ct_ok_later {f : Nat → Int32} {k k' : Int32} {r : Nat} (h : ct_ok f k r) (hk : k ≤ k') : ct_ok f k' r :=
  ⟨h.1, h.2.1, h.2.2.1, h.2.2.2.1, Int32.le_trans h.2.2.2.2.1 hk, h.2.2.2.2.2⟩
theorem ct_or1 (x : Int32) : x ||| 1 ≠ 0 := by
  intro h
  have h2 := congrArg (fun z : Int32 => z.toBitVec.getLsbD 0) h
  simp at h2
theorem ct_no {f : Nat → Int32} {k : Int32} {n : Nat} (h : f (7 * n + 6) = 0) : ¬ ct_ok f k n := by
  intro q
  have := q.1
  rw [h] at this
  exact ct_or1 _ this.symm
theorem ct_kind {x : Int32} (h1 : 1 ≤ x) (h6 : x ≤ 6) : x = 1 ∨ x = 2 ∨ x = 3 ∨ x = 4 ∨ x = 5 ∨ x = 6 := by
  have h0 : ¬ x < 0 := by
    rw [Int32.lt_iff_toInt_lt]
    rw [Int32.le_iff_toInt_le] at h1
    have e0 : (0 : Int32).toInt = 0 := by decide
    have e1 : (1 : Int32).toInt = 1 := by decide
    omega
  obtain ⟨j, hj, rfl⟩ := nI_of2 (M := 6) (n := 6) (by decide) h0 h6
  have : 1 ≤ j := by
    rcases Nat.eq_zero_or_pos j with rfl | q
    · exact absurd h1 (by decide)
    · exact q
  rcases (by omega : j = 1 ∨ j = 2 ∨ j = 3 ∨ j = 4 ∨ j = 5 ∨ j = 6) with rfl | rfl | rfl | rfl | rfl | rfl
  · exact Or.inl rfl
  · exact Or.inr (Or.inl rfl)
  · exact Or.inr (Or.inr (Or.inl rfl))
  · exact Or.inr (Or.inr (Or.inr (Or.inl rfl)))
  · exact Or.inr (Or.inr (Or.inr (Or.inr (Or.inl rfl))))
  · exact Or.inr (Or.inr (Or.inr (Or.inr (Or.inr rfl))))
/-- what an allowed request is -/
theorem ct_ru_put {ob : Nat} {S D G : Nat → Int32} {id v t : Int32} (h : ct_ru ob S D G 1 id v t = 0) : ob < 12 ∧ ¬ v < 0 ∧ ¬ 1000000 < v ∧ ¬ v < t := by
  unfold ct_ru at h
  by_cases h1 : v < 0 ∨ 1000000 < v
  · simp [h1] at h
  · by_cases h2 : v < t
    · simp [h1, h2] at h
    · by_cases h3 : 12 ≤ ob
      · simp [h1, h2, h3] at h
      · exact ⟨by omega, fun q => h1 (Or.inl q), fun q => h1 (Or.inr q), h2⟩
theorem ct_ru_there {ob : Nat} (ho : ob < 2 ^ 31) {S D G : Nat → Int32} {kind id v t : Int32} (hk : kind ≠ 1) (h : ct_ru ob S D G kind id v t = 0) : ∃ j, 1 ≤ j ∧ j ≤ ob ∧ id = nI j := by
  unfold ct_ru at h
  by_cases h1 : (kind = 1 ∨ kind = 2) ∧ (v < 0 ∨ 1000000 < v)
  · rw [if_pos h1] at h; exact absurd h (by decide)
  · rw [if_neg h1] at h
    by_cases h2 : (kind = 3 ∨ kind = 4) ∧ (v < 0 ∨ 7 < v)
    · rw [if_pos h2] at h; exact absurd h (by decide)
    · rw [if_neg h2, if_neg hk] at h
      by_cases h3 : id < 1 ∨ nI ob < id
      · rw [if_pos h3] at h; exact absurd h (by decide)
      · exact ct_id ho (fun q => h3 (Or.inl q)) (fun q => h3 (Or.inr q))
theorem ct_ru_hold {ob : Nat} {S D G : Nat → Int32} {kind id v t : Int32} (hk : kind = 3 ∨ kind = 4) (h : ct_ru ob S D G kind id v t = 0) : (∃ w, w < 8 ∧ v = nI w) ∧ ¬ (ct_has (G id.toNatClampNeg) v ↔ kind = 3) := by
  unfold ct_ru at h
  have k1 : ¬ kind = 1 := by rcases hk with rfl | rfl <;> decide
  have k2 : ¬ kind = 2 := by rcases hk with rfl | rfl <;> decide
  have k5 : ¬ 5 ≤ kind := by rcases hk with rfl | rfl <;> decide
  rw [if_neg (fun q => q.1.elim k1 k2)] at h
  by_cases h2 : v < 0 ∨ 7 < v
  · rw [if_pos ⟨hk, h2⟩] at h; exact absurd h (by decide)
  · rw [if_neg (fun q => h2 q.2), if_neg k1] at h
    refine ⟨?_, fun q => ?_⟩
    · obtain ⟨j, hj, e⟩ := nI_of2 (M := 7) (n := 7) (by decide) (fun q => h2 (Or.inl q)) (Int32.not_lt.mp (fun q => h2 (Or.inr q)))
      exact ⟨j, by omega, e⟩
    · by_cases h3 : id < 1 ∨ nI ob < id
      · rw [if_pos h3] at h; exact absurd h (by decide)
      · rw [if_neg h3] at h
        split at h
        · exact absurd h (by decide)
        · first | exact absurd h (by decide) | (rw [if_neg k2, if_neg k5, if_pos q] at h; exact absurd h (by decide))
/-- bits of the holds -/
theorem ct_bits : ∀ w, w < 8 → ∀ g, g < 256 → (ct_has (nI g) (nI w) ↔ ¬ (nI g &&& ((1 : Int32) <<< (nI w &&& 31))) = 0) ∧
    (ct_has (nI g) (nI w) → 2 ^ w ≤ g ∧ nI g - ((1 : Int32) <<< (nI w &&& 31)) = nI (g - 2 ^ w) ∧ nI g &&& (((1 : Int32) <<< (nI w &&& 31)) ^^^ (-1)) = nI (g - 2 ^ w)) ∧
    (¬ ct_has (nI g) (nI w) → g + 2 ^ w < 256 ∧ nI g + ((1 : Int32) <<< (nI w &&& 31)) = nI (g + 2 ^ w) ∧ nI g ||| ((1 : Int32) <<< (nI w &&& 31)) = nI (g + 2 ^ w)) := by
  decide +kernel
theorem ct_us {f : Nat → Int32} {k : Nat} {x : Int32} : upd f k x k = x := by simp [upd]
theorem ct_un {f : Nat → Int32} {k j : Nat} {x : Int32} (h : j ≠ k) : upd f k x j = f j := by simp [upd, h]
/-- what holds of the objects after n sound records -/
def ct_iv (f : Nat → Int32) (n : Nat) (C : ct_T) : Prop := C.1 ≤ 12 ∧
  (∀ j, 1 ≤ j → j ≤ C.1 → (∃ g, g < 256 ∧ C.2.2.2.1 j = nI g) ∧ ∃ p, p < n ∧ C.2.2.2.2 j = nI p ∧ f (7 * p) = 1 ∧ f (7 * p + 1) = nI j ∧ ∀ q, q < p → ¬ (f (7 * q) = 1 ∧ f (7 * q + 1) = nI j)) ∧
  ∀ q, q < n → f (7 * q) = 1 → ∃ j, 1 ≤ j ∧ j ≤ C.1 ∧ f (7 * q + 1) = nI j
theorem ct_iv_0 (f : Nat → Int32) : ct_iv f 0 (ct_st f 0) := ⟨Nat.zero_le _, fun j h1 h2 => absurd (Nat.le_trans h1 h2) (Nat.not_succ_le_zero 0), fun q h => absurd h (Nat.not_lt_zero q)⟩
theorem ct_iv_s {f : Nat → Int32} {k : Int32} {n : Nat} (h : ct_iv f n (ct_st f n)) (ho : ct_ok f k n) : ct_iv f (n + 1) (ct_st f (n + 1)) := by
  obtain ⟨b, o, w⟩ := h
  obtain ⟨-, g1, g6, -, -, -, -, gid, gr⟩ := ho
  have hob : (ct_st f n).1 < 2 ^ 31 := by omega
  rw [ct_st]
  unfold ct_ruC at gr
  generalize hC : ct_st f n = C at *
  by_cases hp : f (7 * n) = 1
  · have gi := gid hp
    rw [hp] at gr
    have hlt := (ct_ru_put gr).1
    rw [ct_ap, if_pos hp]
    refine ⟨hlt, fun j j1 j2 => ?_, fun q hq hq1 => ?_⟩
    · simp only at j2 ⊢
      by_cases hj : j = C.1 + 1
      · subst hj
        refine ⟨⟨0, by decide, by rw [ct_us]; rfl⟩, n, by omega, by rw [ct_us], hp, gi, fun q hq hh => ?_⟩
        obtain ⟨i, i1, i2, i3⟩ := w q hq hh.1
        rw [hh.2, nI_eq (by omega) (by omega)] at i3
        omega
      · obtain ⟨⟨g, g1, g2⟩, p, p1, p2, p3⟩ := o j j1 (by omega)
        exact ⟨⟨g, g1, by rw [ct_un hj]; exact g2⟩, p, by omega, by rw [ct_un hj]; exact p2, p3⟩
    · simp only
      by_cases hqn : q = n
      · subst hqn
        exact ⟨C.1 + 1, by omega, by omega, gi⟩
      · obtain ⟨i, i1, i2, i3⟩ := w q (by omega) hq1
        exact ⟨i, i1, by omega, i3⟩
  · have keep : ∀ C2 : ct_T, C2.1 = C.1 → C2.2.2.2.2 = C.2.2.2.2 → (∀ j, 1 ≤ j → j ≤ C.1 → ∃ g, g < 256 ∧ C2.2.2.2.1 j = nI g) → ct_iv f (n + 1) C2 := by
      intro C2 e1 e2 e3
      refine ⟨by omega, fun j j1 j2 => ?_, fun q hq hq1 => ?_⟩
      · obtain ⟨-, p, p1, p2, p3⟩ := o j j1 (by omega)
        exact ⟨e3 j j1 (by omega), p, by omega, by rw [e2]; exact p2, p3⟩
      · by_cases hqn : q = n
        · subst hqn; exact absurd hq1 hp
        · obtain ⟨i, i1, i2, i3⟩ := w q (by omega) hq1
          exact ⟨i, i1, by omega, i3⟩
    obtain ⟨i, i1, i2, i3⟩ := ct_ru_there hob hp gr
    have hi : (f (7 * n + 1)).toNatClampNeg = i := by rw [i3]; exact nI_clamp (by omega)
    rw [ct_ap, if_neg hp]
    by_cases h2 : f (7 * n) = 2
    · rw [if_pos h2]
      exact keep _ rfl rfl (fun j j1 j2 => (o j j1 j2).1)
    · rw [if_neg h2]
      by_cases h3 : f (7 * n) = 3
      · rw [if_pos h3]
        obtain ⟨⟨v, v1, v2⟩, hh⟩ := ct_ru_hold (Or.inl h3) gr
        refine keep _ rfl rfl (fun j j1 j2 => ?_)
        simp only
        by_cases hj : j = i
        · subst hj
          obtain ⟨⟨g, g1, g2⟩, -⟩ := o j j1 j2
          rw [hi, g2, v2] at hh
          rw [hi, ct_us, g2, v2]
          obtain ⟨-, -, b3⟩ := ct_bits v v1 g g1
          have := b3 (fun q => hh ⟨fun _ => h3, fun _ => q⟩)
          exact ⟨_, this.1, this.2.1⟩
        · rw [hi, ct_un hj]; exact (o j j1 j2).1
      · rw [if_neg h3]
        by_cases h4 : f (7 * n) = 4
        · rw [if_pos h4]
          obtain ⟨⟨v, v1, v2⟩, hh⟩ := ct_ru_hold (Or.inr h4) gr
          refine keep _ rfl rfl (fun j j1 j2 => ?_)
          simp only
          by_cases hj : j = i
          · subst hj
            obtain ⟨⟨g, g1, g2⟩, -⟩ := o j j1 j2
            rw [hi, g2, v2] at hh
            rw [hi, ct_us, g2, v2]
            obtain ⟨-, b2, -⟩ := ct_bits v v1 g g1
            have hb : ct_has (nI g) (nI v) := Classical.byContradiction fun q => hh ⟨fun z => absurd z q, fun z => absurd z h3⟩
            have := b2 hb
            exact ⟨_, Nat.lt_of_le_of_lt (Nat.sub_le _ _) g1, this.2.1⟩
          · rw [hi, ct_un hj]; exact (o j j1 j2).1
        · rw [if_neg h4]
          exact keep _ rfl rfl (fun j j1 j2 => (o j j1 j2).1)
theorem ct_iv_n {f : Nat → Int32} {k : Int32} : ∀ n, (∀ r, r < n → ct_ok f k r) → ct_iv f n (ct_st f n)
  | 0, _ => ct_iv_0 f
  | n + 1, h => ct_iv_s (ct_iv_n n (fun r hr => h r (by omega))) (h n (by omega))
/-- a request that the rules allow is entered: one sound record more -/
theorem ct_add {f f' : Nat → Int32} {k : Int32} {n : Nat} (h : ct_n f k n) (hn : n < 40) (h0 : ∀ j, j < 7 * n → f' j = f j) (ho : ct_ok f' k n) (hz : ∀ j, 7 * n + 7 ≤ j → j < 280 → f' j = 0) : ct_n f' k (n + 1) := by
  refine ⟨by omega, fun r hr => ?_, fun q => ct_no (hz _ (by omega) (by omega))⟩
  by_cases e : r = n
  · subst e; exact ho
  · exact (ct_ok_cg h0 k (by omega)).2 (h.2.1 r (by omega))
end
section
/-! the way down a tree -/
def ds_hb (c : Nat) : Nat := if c ≤ 2 then 1 else if c ≤ 4 then 2 else if c ≤ 8 then 4 else if c ≤ 16 then 8 else if c ≤ 32 then 16 else 32
theorem ds_hb_in {c : Nat} (h : 2 ≤ c) (h2 : c ≤ 64) : 1 ≤ ds_hb c ∧ ds_hb c < c ∧ c ≤ 2 * ds_hb c := by
  unfold ds_hb
  repeat' split
  all_goals omega
/-- where the way to t stands after s steps: first leaf, number of leaves -/
def ds_at (t n : Nat) : Nat → Nat × Nat
  | 0 => (0, n)
  | s + 1 => if t < (ds_at t n s).1 + ds_hb (ds_at t n s).2 then ((ds_at t n s).1, ds_hb (ds_at t n s).2) else ((ds_at t n s).1 + ds_hb (ds_at t n s).2, (ds_at t n s).2 - ds_hb (ds_at t n s).2)
/-- the step to the right: 1, to the left: 0 -/
def ds_rt (t n s : Nat) : Int32 := if t < (ds_at t n s).1 + ds_hb (ds_at t n s).2 then 0 else 1
/-- the side tree that step s passes -/
def ds_sf (t n s : Nat) : Nat := if t < (ds_at t n s).1 + ds_hb (ds_at t n s).2 then (ds_at t n s).1 + ds_hb (ds_at t n s).2 else (ds_at t n s).1
def ds_sc (t n s : Nat) : Nat := if t < (ds_at t n s).1 + ds_hb (ds_at t n s).2 then (ds_at t n s).2 - ds_hb (ds_at t n s).2 else ds_hb (ds_at t n s).2
/-- no step so far stood at its end (e: does it end where the tree ends with t) -/
def ds_end (e : Bool) (t n s : Nat) : Prop := (ds_at t n s).2 ≤ 1 ∨ (e = true ∧ t + 1 = (ds_at t n s).1 + (ds_at t n s).2)
def ds_run (e : Bool) (t n s : Nat) : Prop := ∀ i, i < s → ¬ ds_end e t n i
/-- s steps, and there it ends -/
def ds_is (e : Bool) (t n s : Nat) : Prop := ds_run e t n s ∧ ds_end e t n s
theorem ds_iv {e : Bool} {t n : Nat} (ht : t < n) (hn : n ≤ 40) : ∀ s, ds_run e t n s → (ds_at t n s).1 ≤ t ∧ t < (ds_at t n s).1 + (ds_at t n s).2 ∧ (ds_at t n s).1 + (ds_at t n s).2 ≤ n ∧ ((ds_at t n s).2 ≤ 64 / 2 ^ s ∨ s > 6)
  | 0, _ => by
    refine ⟨Nat.zero_le _, ?_, ?_, Or.inl ?_⟩ <;> simp [ds_at] <;> omega
  | s + 1, h => by
    obtain ⟨a1, a2, a3, a4⟩ := ds_iv ht hn s (fun i hi => h i (by omega))
    have he := h s (by omega)
    have hc : 2 ≤ (ds_at t n s).2 := by
      rcases Nat.lt_or_ge 1 (ds_at t n s).2 with q | q
      · exact q
      · exact absurd (Or.inl q) he
    obtain ⟨b1, b2, b3⟩ := ds_hb_in hc (by omega)
    have hb : ds_hb (ds_at t n s).2 ≤ 64 / 2 ^ (s + 1) ∨ s + 1 > 6 := by
      rcases a4 with a4 | a4
      · rcases Nat.lt_or_ge s 6 with q | q
        · left
          generalize (ds_at t n s).2 = c at *
          rcases (by omega : s = 0 ∨ s = 1 ∨ s = 2 ∨ s = 3 ∨ s = 4 ∨ s = 5) with rfl | rfl | rfl | rfl | rfl | rfl <;> simp at a4 ⊢ <;> unfold ds_hb <;> repeat' split
          all_goals omega
        · right; omega
      · right; omega
    rw [ds_at]
    by_cases q : t < (ds_at t n s).1 + ds_hb (ds_at t n s).2
    · rw [if_pos q]
      exact ⟨a1, q, by simp only; omega, hb⟩
    · rw [if_neg q]
      refine ⟨by simp only; omega, by simp only; omega, by simp only; omega, ?_⟩
      rcases hb with hb | hb
      · left; simp only; omega
      · right; exact hb
theorem ds_le6 {e : Bool} {t n s : Nat} (ht : t < n) (hn : n ≤ 40) (h : ds_run e t n s) : s ≤ 6 := by
  rcases Nat.lt_or_ge 6 s with q | q
  · have h6 : ds_run e t n 6 := fun i hi => h i (by omega)
    obtain ⟨a1, a2, a3, a4⟩ := ds_iv ht hn 6 h6
    have : (ds_at t n 6).2 ≤ 1 := by
      rcases a4 with a4 | a4
      · simpa using a4
      · omega
    exact absurd (Or.inl this) (h 6 q)
  · exact q
theorem ds_6 {e : Bool} {t n : Nat} (ht : t < n) (hn : n ≤ 40) (h : ds_run e t n 6) : ds_end e t n 6 := by
  obtain ⟨a1, a2, a3, a4⟩ := ds_iv ht hn 6 h
  left
  rcases a4 with a4 | a4
  · simpa using a4
  · omega
theorem ds_is_uq {e : Bool} {t n s s' : Nat} (h : ds_is e t n s) (h' : ds_is e t n s') : s = s' := by
  rcases Nat.lt_trichotomy s s' with q | q | q
  · exact absurd h.2 (h'.1 s q)
  · exact q
  · exact absurd h'.2 (h.1 s' q)
/-- side trees lie in the tree -/
theorem ds_side {e : Bool} {t n s i : Nat} (ht : t < n) (hn : n ≤ 40) (h : ds_run e t n s) (hi : i < s) : 1 ≤ ds_sc t n i ∧ ds_sf t n i + ds_sc t n i ≤ n := by
  obtain ⟨a1, a2, a3, a4⟩ := ds_iv ht hn i (fun j hj => h j (by omega))
  have he := h i hi
  have hc : 2 ≤ (ds_at t n i).2 := by
    rcases Nat.lt_or_ge 1 (ds_at t n i).2 with q | q
    · exact q
    · exact absurd (Or.inl q) he
  obtain ⟨b1, b2, b3⟩ := ds_hb_in hc (by omega)
  unfold ds_sc ds_sf
  by_cases q : t < (ds_at t n i).1 + ds_hb (ds_at t n i).2
  · rw [if_pos q, if_pos q]; omega
  · rw [if_neg q, if_neg q]; omega
/-- proofs from outside -/
def pf_up (fd : Nat → Int32) (t n st : Nat) : Nat → Int32
  | 0 => fd 0
  | q + 1 => if ds_rt t n (st - (q + 1)) = 1 then hf_node (fd (q + 1)) (pf_up fd t n st q) else hf_node (pf_up fd t n st q) (fd (q + 1))
/-- the older and the newer root over i side trees, the words from base b on -/
def pf_old (fd : Nat → Int32) (x : Int32) (b t n st : Nat) : Nat → Int32
  | 0 => x
  | i + 1 => if ds_rt t n (st - 1 - i) = 1 then hf_node (fd (b + i)) (pf_old fd x b t n st i) else pf_old fd x b t n st i
def pf_new (fd : Nat → Int32) (x : Int32) (b t n st : Nat) : Nat → Int32
  | 0 => x
  | i + 1 => if ds_rt t n (st - 1 - i) = 1 then hf_node (fd (b + i)) (pf_new fd x b t n st i) else hf_node (pf_new fd x b t n st i) (fd (b + i))
end
section
/-! words that are written: image, power, words left -/
abbrev wr_T : Type := (Nat → Int32) × Int32 × Int32
def wr_1 (x : wr_T) (a : Nat) (v : Int32) : wr_T := if x.2.1 = 1 then (if x.2.2 = 0 then (x.1, 0, -1) else (upd x.1 a v, 1, if 0 < x.2.2 then x.2.2 - 1 else x.2.2)) else x
def wr_n (x : wr_T) (a : Nat) (g : Nat → Int32) : Nat → wr_T
  | 0 => x
  | k + 1 => wr_1 (wr_n x a g k) (a + k) (g k)
theorem wr_1_off {x : wr_T} (a : Nat) (v : Int32) (h : x.2.1 ≠ 1) : wr_1 x a v = x := by rw [wr_1, if_neg h]
theorem wr_1_pw {x : wr_T} (a : Nat) (v : Int32) (h : x.2.1 = 0 ∨ x.2.1 = 1) : (wr_1 x a v).2.1 = 0 ∨ (wr_1 x a v).2.1 = 1 := by
  unfold wr_1
  by_cases h1 : x.2.1 = 1
  · rw [if_pos h1]
    by_cases h2 : x.2.2 = 0
    · rw [if_pos h2]; exact Or.inl rfl
    · rw [if_neg h2]; exact Or.inr rfl
  · rw [if_neg h1]; exact h
theorem wr_n_pw {x : wr_T} (a : Nat) (g : Nat → Int32) (h : x.2.1 = 0 ∨ x.2.1 = 1) : ∀ k, (wr_n x a g k).2.1 = 0 ∨ (wr_n x a g k).2.1 = 1
  | 0 => h
  | k + 1 => wr_1_pw _ _ (wr_n_pw a g h k)
theorem wr_n_off {x : wr_T} {a : Nat} {g : Nat → Int32} {k : Nat} (h : (wr_n x a g k).2.1 ≠ 1) : ∀ i, wr_n x a g (k + i) = wr_n x a g k
  | 0 => rfl
  | i + 1 => by
    have e := wr_n_off h i
    rw [← Nat.add_assoc, wr_n, e, wr_1_off _ _ h]
theorem wr_n_off0 {x : wr_T} {a : Nat} {g : Nat → Int32} (h : x.2.1 ≠ 1) (k : Nat) : wr_n x a g k = x := by
  have := wr_n_off (x := x) (a := a) (g := g) (k := 0) h k
  rw [Nat.zero_add] at this
  exact this
theorem wr_1_on {x : wr_T} {a : Nat} {v : Int32} (h : (wr_1 x a v).2.1 = 1) : x.2.1 = 1 ∧ (wr_1 x a v).1 = upd x.1 a v := by
  unfold wr_1 at h ⊢
  by_cases h1 : x.2.1 = 1
  · rw [if_pos h1] at h ⊢
    by_cases h2 : x.2.2 = 0
    · rw [if_pos h2] at h; exact absurd (show (0 : Int32) = 1 from h) (by decide)
    · rw [if_neg h2]; exact ⟨h1, rfl⟩
  · rw [if_neg h1] at h; exact absurd h h1
theorem wr_n_on {x : wr_T} {a : Nat} {g : Nat → Int32} : ∀ k, (wr_n x a g k).2.1 = 1 → x.2.1 = 1 ∧ ∀ j, (wr_n x a g k).1 j = if a ≤ j ∧ j < a + k then g (j - a) else x.1 j
  | 0, h => ⟨h, fun j => by rw [if_neg (by omega)]; rfl⟩
  | k + 1, h => by
    obtain ⟨h1, h2⟩ := wr_1_on h
    obtain ⟨h3, h4⟩ := wr_n_on k h1
    refine ⟨h3, fun j => ?_⟩
    rw [wr_n, h2]
    by_cases hj : j = a + k
    · subst hj
      rw [ct_us, if_pos ⟨by omega, by omega⟩, Nat.add_sub_cancel_left]
    · rw [ct_un hj, h4 j]
      by_cases hq : a ≤ j ∧ j < a + k
      · rw [if_pos hq, if_pos ⟨hq.1, by omega⟩]
      · rw [if_neg hq, if_neg (fun z => hq ⟨z.1, by omega⟩)]
/-- a record's words -/
def rc_w (kind id v c0 c1 t : Int32) : Nat → Int32 := fun j => if j = 0 then kind else if j = 1 then id else if j = 2 then v else if j = 3 then c0 else if j = 4 then c1 else if j = 5 then t else hf_mix (hf_mix (hf_mix (hf_mix (hf_mix (hf_mix 1 kind) id) v) c0) c1) t ||| 1
theorem rc_leaf {f : Nat → Int32} {a : Nat} {kind id v c0 c1 t : Int32} (h : ∀ j, j < 7 → f (a + j) = rc_w kind id v c0 c1 t j) : f (a + 6) = (hf_leaf f a ||| 1) := by
  rw [h 6 (by decide)]
  unfold hf_leaf
  simp only [hf_lf]
  rw [h 0 (by decide), h 1 (by decide), h 2 (by decide), h 3 (by decide), h 4 (by decide), h 5 (by decide)]
  rfl
/-- the record of an allowed request is sound -/
theorem rc_ok {f f' : Nat → Int32} {k : Int32} {n : Nat} {kind id v c0 c1 : Int32} (h : ct_n f k n) (hk0 : 0 ≤ k) (h0 : ∀ j, j < 7 * n → f' j = f j) (hw : ∀ j, j < 7 → f' (7 * n + j) = rc_w kind id v c0 c1 k j)
    (k1 : 1 ≤ kind) (k6 : kind ≤ 6) (hc : kind ≠ 1 → c0 = 0 ∧ c1 = 0) (hv : 5 ≤ kind → v = 0) (hi : kind = 1 → id = nI ((ct_st f n).1 + 1)) (hr : ct_ruC (ct_st f n) kind id v k = 0) : ct_ok f' k n := by
  have e0 := hw 0 (by decide)
  have e1 := hw 1 (by decide)
  have e2 := hw 2 (by decide)
  have e3 := hw 3 (by decide)
  have e4 := hw 4 (by decide)
  have e5 := hw 5 (by decide)
  rw [Nat.add_zero] at e0
  have r0 : rc_w kind id v c0 c1 k 0 = kind := rfl
  have r1 : rc_w kind id v c0 c1 k 1 = id := rfl
  have r2 : rc_w kind id v c0 c1 k 2 = v := rfl
  have r3 : rc_w kind id v c0 c1 k 3 = c0 := rfl
  have r4 : rc_w kind id v c0 c1 k 4 = c1 := rfl
  have r5 : rc_w kind id v c0 c1 k 5 = k := rfl
  unfold ct_ok
  rw [ct_st_cg h0 n (Nat.le_refl n), e0, e1, e2, e3, e4, e5, r0, r1, r2, r3, r4, r5]
  refine ⟨rc_leaf hw, k1, k6, ?_, Int32.le_refl k, hc, hv, hi, hr⟩
  unfold ct_bf
  by_cases hn : n = 0
  · rw [if_pos hn]; exact hk0
  · rw [if_neg hn, h0 _ (by omega)]
    exact (h.2.1 (n - 1) (by omega)).2.2.2.2.1
end
section
/-! what the power's return wipes -/
def wp_p (f : Nat → Int32) (n a : Nat) : Nat → Int32 := fun j => if 7 * n ≤ j ∧ j < a then 0 else f j
def wp_k (f : Nat → Int32) (C : ct_T) (i : Nat) : Nat → Int32 := fun j => if 280 ≤ j ∧ j < 280 + i ∧ (C.1 < j - 279 ∨ C.2.1 (j - 279) = 3) then 0 else f j
def wp_all (f : Nat → Int32) (n : Nat) : Nat → Int32 := wp_k (wp_p f n 280) (ct_st f n) 12
theorem wp_p_0 (f : Nat → Int32) (n : Nat) : wp_p f n (7 * n) = f := by
  funext j
  unfold wp_p
  rw [if_neg (by omega)]
theorem wp_p_s (f : Nat → Int32) {n a : Nat} (h : 7 * n ≤ a) : upd (wp_p f n a) a 0 = wp_p f n (a + 1) := by
  funext j
  unfold upd wp_p
  by_cases hj : j = a
  · subst hj
    rw [if_pos rfl, if_pos ⟨h, by omega⟩]
  · rw [if_neg hj]
    by_cases q : 7 * n ≤ j ∧ j < a
    · rw [if_pos q, if_pos ⟨q.1, by omega⟩]
    · rw [if_neg q, if_neg (fun z => q ⟨z.1, by omega⟩)]
theorem wp_k_0 (f : Nat → Int32) (C : ct_T) : wp_k f C 0 = f := by
  funext j
  unfold wp_k
  rw [if_neg (by omega)]
theorem wp_k_s (f : Nat → Int32) (C : ct_T) (i : Nat) (h : C.1 < i + 1 ∨ C.2.1 (i + 1) = 3) : upd (wp_k f C i) (280 + i) 0 = wp_k f C (i + 1) := by
  funext j
  unfold upd wp_k
  by_cases hj : j = 280 + i
  · subst hj
    have e : 280 + i - 279 = i + 1 := by omega
    rw [if_pos rfl, e, if_pos ⟨by omega, by omega, h⟩]
  · rw [if_neg hj]
    by_cases q : 280 ≤ j ∧ j < 280 + i ∧ (C.1 < j - 279 ∨ C.2.1 (j - 279) = 3)
    · rw [if_pos q, if_pos ⟨q.1, by omega, q.2.2⟩]
    · rw [if_neg q, if_neg (fun z => q ⟨z.1, by omega, z.2.2⟩)]
theorem wp_k_n (f : Nat → Int32) (C : ct_T) (i : Nat) (h : ¬ (C.1 < i + 1 ∨ C.2.1 (i + 1) = 3)) : wp_k f C i = wp_k f C (i + 1) := by
  funext j
  unfold wp_k
  by_cases hj : j = 280 + i
  · subst hj
    have e : 280 + i - 279 = i + 1 := by omega
    rw [e, if_neg (by omega), if_neg (fun z => h z.2.2)]
  · by_cases q : 280 ≤ j ∧ j < 280 + i ∧ (C.1 < j - 279 ∨ C.2.1 (j - 279) = 3)
    · rw [if_pos q, if_pos ⟨q.1, by omega, q.2.2⟩]
    · rw [if_neg q, if_neg (fun z => q ⟨z.1, by omega, z.2.2⟩)]
theorem wp_all_lo {f : Nat → Int32} {n j : Nat} (h : j < 7 * n) (hn : n ≤ 40) : wp_all f n j = f j := by
  unfold wp_all wp_k wp_p
  rw [if_neg (by omega), if_neg (by omega)]
theorem wp_all_z {f : Nat → Int32} {n j : Nat} (h : 7 * n ≤ j) (h2 : j < 280) : wp_all f n j = 0 := by
  unfold wp_all wp_k wp_p
  rw [if_neg (by omega), if_pos ⟨h, h2⟩]
theorem wp_all_n {f : Nat → Int32} {k : Int32} {n : Nat} (h : ct_n f k n) : ct_n (wp_all f n) k n := by
  have hn := h.1
  exact ⟨hn, fun r hr => (ct_ok_cg (n := n) (fun j hj => wp_all_lo hj hn) k hr).2 (h.2.1 r hr), fun q => ct_no (wp_all_z (by omega) (by omega))⟩
theorem wp_all_st {f : Nat → Int32} {n : Nat} (hn : n ≤ 40) : ct_st (wp_all f n) n = ct_st f n := ct_st_cg (n := n) (fun j hj => wp_all_lo hj hn) n (Nat.le_refl n)
end
section
/-! calls by the words of the tables -/
abbrev rm_ (a b : Nat) : Room := { frames := a, cells := 0, slots := 0, locals := b }
section GW
variable {R : Room} {s : State} {args : Array Value} {own C : String} {index maxL n : Nat} {y : MethodName} {bytes : ByteArray} {ret : Option FieldType} {a b : Nat}
theorem gw_cV (n : Nat) (hw : ∀ w ∈ gw_T, w.before args s = true) (m1 : Cond.methodLink own index y ∈ gw_T) (m2 : Cond.instanceMethod y ∈ gw_T) (m3 : Cond.selects C y y ∈ gw_T) (m4 : Cond.initialized y.cls ∈ gw_T) (m5 : Cond.code y bytes maxL ret ∈ gw_T)
    (hd : y.cls ≠ "java/lang/invoke/MethodHandle" ∧ y.cls ≠ "java/lang/invoke/VarHandle" ∧ (parseMethodDescriptor y.desc).map (fun d => d.parameters.length) = some n) (hR : a + 1 ≤ R.frames ∧ 8 + (maxL + 11) + b ≤ R.locals) : CallW R s args own C index y bytes maxL ret (gw y bytes maxL ret) (rm_ a b) 0 0 n :=
  ⟨callB_of n hw (gw_GoodIn m5) rfl rfl rfl (hw _ m4) (hw _ m1) hd hR, hw _ m2, hw _ m3⟩
theorem gw_cS (n : Nat) (hw : ∀ w ∈ gw_T, w.before args s = true) (m1 : Cond.methodLink own index y ∈ gw_T) (m2 : Cond.static y ∈ gw_T) (m4 : Cond.initialized y.cls ∈ gw_T) (m5 : Cond.code y bytes maxL ret ∈ gw_T)
    (hd : y.cls ≠ "java/lang/invoke/MethodHandle" ∧ y.cls ≠ "java/lang/invoke/VarHandle" ∧ (parseMethodDescriptor y.desc).map (fun d => d.parameters.length) = some n) (hR : a + 1 ≤ R.frames ∧ 8 + (maxL + 11) + b ≤ R.locals) : CallB R s args own index y bytes maxL ret (gw y bytes maxL ret) (rm_ a b) 0 0 n ∧ (Cond.static y).before args s = true :=
  ⟨callB_of n hw (gw_GoodIn m5) rfl rfl rfl (hw _ m4) (hw _ m1) hd hR, hw _ m2⟩
end GW
/-- the array classes: ints, booleans -/
abbrev gT (cI cZ : ClassId) : List (ClassId × FieldType) := [(cI, .int), (cZ, .boolean)]
theorem hd_X_init : (yn_X_init).cls ≠ "java/lang/invoke/MethodHandle" ∧ (yn_X_init).cls ≠ "java/lang/invoke/VarHandle" ∧ (parseMethodDescriptor (yn_X_init).desc).map (fun d => d.parameters.length) = some 0 := by decide +kernel
theorem hd_G_init : (yn_G_init).cls ≠ "java/lang/invoke/MethodHandle" ∧ (yn_G_init).cls ≠ "java/lang/invoke/VarHandle" ∧ (parseMethodDescriptor (yn_G_init).desc).map (fun d => d.parameters.length) = some 0 := by decide +kernel
theorem hd_C_init : (yn_C_init).cls ≠ "java/lang/invoke/MethodHandle" ∧ (yn_C_init).cls ≠ "java/lang/invoke/VarHandle" ∧ (parseMethodDescriptor (yn_C_init).desc).map (fun d => d.parameters.length) = some 0 := by decide +kernel
theorem hd_E_init : (yn_E_init).cls ≠ "java/lang/invoke/MethodHandle" ∧ (yn_E_init).cls ≠ "java/lang/invoke/VarHandle" ∧ (parseMethodDescriptor (yn_E_init).desc).map (fun d => d.parameters.length) = some 0 := by decide +kernel
theorem hd_F_init : (yn_F_init).cls ≠ "java/lang/invoke/MethodHandle" ∧ (yn_F_init).cls ≠ "java/lang/invoke/VarHandle" ∧ (parseMethodDescriptor (yn_F_init).desc).map (fun d => d.parameters.length) = some 0 := by decide +kernel
theorem hd_X_put : (yn_X_put).cls ≠ "java/lang/invoke/MethodHandle" ∧ (yn_X_put).cls ≠ "java/lang/invoke/VarHandle" ∧ (parseMethodDescriptor (yn_X_put).desc).map (fun d => d.parameters.length) = some 4 := by decide +kernel
theorem hd_C_nextId : (yn_C_nextId).cls ≠ "java/lang/invoke/MethodHandle" ∧ (yn_C_nextId).cls ≠ "java/lang/invoke/VarHandle" ∧ (parseMethodDescriptor (yn_C_nextId).desc).map (fun d => d.parameters.length) = some 0 := by decide +kernel
theorem hd_X_refusalOf : (yn_X_refusalOf).cls ≠ "java/lang/invoke/MethodHandle" ∧ (yn_X_refusalOf).cls ≠ "java/lang/invoke/VarHandle" ∧ (parseMethodDescriptor (yn_X_refusalOf).desc).map (fun d => d.parameters.length) = some 3 := by decide +kernel
theorem hd_C_verdict : (yn_C_verdict).cls ≠ "java/lang/invoke/MethodHandle" ∧ (yn_C_verdict).cls ≠ "java/lang/invoke/VarHandle" ∧ (parseMethodDescriptor (yn_C_verdict).desc).map (fun d => d.parameters.length) = some 4 := by decide +kernel
theorem hd_C_verdictOfKind : (yn_C_verdictOfKind).cls ≠ "java/lang/invoke/MethodHandle" ∧ (yn_C_verdictOfKind).cls ≠ "java/lang/invoke/VarHandle" ∧ (parseMethodDescriptor (yn_C_verdictOfKind).desc).map (fun d => d.parameters.length) = some 4 := by decide +kernel
theorem hd_C_putVerdict : (yn_C_putVerdict).cls ≠ "java/lang/invoke/MethodHandle" ∧ (yn_C_putVerdict).cls ≠ "java/lang/invoke/VarHandle" ∧ (parseMethodDescriptor (yn_C_putVerdict).desc).map (fun d => d.parameters.length) = some 2 := by decide +kernel
theorem hd_C_isDate : (yn_C_isDate).cls ≠ "java/lang/invoke/MethodHandle" ∧ (yn_C_isDate).cls ≠ "java/lang/invoke/VarHandle" ∧ (parseMethodDescriptor (yn_C_isDate).desc).map (fun d => d.parameters.length) = some 1 := by decide +kernel
theorem hd_C_extendVerdict : (yn_C_extendVerdict).cls ≠ "java/lang/invoke/MethodHandle" ∧ (yn_C_extendVerdict).cls ≠ "java/lang/invoke/VarHandle" ∧ (parseMethodDescriptor (yn_C_extendVerdict).desc).map (fun d => d.parameters.length) = some 2 := by decide +kernel
theorem hd_C_isThere : (yn_C_isThere).cls ≠ "java/lang/invoke/MethodHandle" ∧ (yn_C_isThere).cls ≠ "java/lang/invoke/VarHandle" ∧ (parseMethodDescriptor (yn_C_isThere).desc).map (fun d => d.parameters.length) = some 1 := by decide +kernel
theorem hd_C_holdVerdict : (yn_C_holdVerdict).cls ≠ "java/lang/invoke/MethodHandle" ∧ (yn_C_holdVerdict).cls ≠ "java/lang/invoke/VarHandle" ∧ (parseMethodDescriptor (yn_C_holdVerdict).desc).map (fun d => d.parameters.length) = some 3 := by decide +kernel
theorem hd_C_stateOf : (yn_C_stateOf).cls ≠ "java/lang/invoke/MethodHandle" ∧ (yn_C_stateOf).cls ≠ "java/lang/invoke/VarHandle" ∧ (parseMethodDescriptor (yn_C_stateOf).desc).map (fun d => d.parameters.length) = some 1 := by decide +kernel
theorem hd_C_endVerdict : (yn_C_endVerdict).cls ≠ "java/lang/invoke/MethodHandle" ∧ (yn_C_endVerdict).cls ≠ "java/lang/invoke/VarHandle" ∧ (parseMethodDescriptor (yn_C_endVerdict).desc).map (fun d => d.parameters.length) = some 3 := by decide +kernel
theorem hd_H_pad : (yn_H_pad).cls ≠ "java/lang/invoke/MethodHandle" ∧ (yn_H_pad).cls ≠ "java/lang/invoke/VarHandle" ∧ (parseMethodDescriptor (yn_H_pad).desc).map (fun d => d.parameters.length) = some 3 := by decide +kernel
theorem hd_H_mix : (yn_H_mix).cls ≠ "java/lang/invoke/MethodHandle" ∧ (yn_H_mix).cls ≠ "java/lang/invoke/VarHandle" ∧ (parseMethodDescriptor (yn_H_mix).desc).map (fun d => d.parameters.length) = some 2 := by decide +kernel
theorem hd_J_rotateLeft : (yn_J_rotateLeft).cls ≠ "java/lang/invoke/MethodHandle" ∧ (yn_J_rotateLeft).cls ≠ "java/lang/invoke/VarHandle" ∧ (parseMethodDescriptor (yn_J_rotateLeft).desc).map (fun d => d.parameters.length) = some 2 := by decide +kernel
theorem hd_X_draftRecord : (yn_X_draftRecord).cls ≠ "java/lang/invoke/MethodHandle" ∧ (yn_X_draftRecord).cls ≠ "java/lang/invoke/VarHandle" ∧ (parseMethodDescriptor (yn_X_draftRecord).desc).map (fun d => d.parameters.length) = some 5 := by decide +kernel
theorem hd_H_leafAt : (yn_H_leafAt).cls ≠ "java/lang/invoke/MethodHandle" ∧ (yn_H_leafAt).cls ≠ "java/lang/invoke/VarHandle" ∧ (parseMethodDescriptor (yn_H_leafAt).desc).map (fun d => d.parameters.length) = some 2 := by decide +kernel
theorem hd_G_keyPlace : (yn_G_keyPlace).cls ≠ "java/lang/invoke/MethodHandle" ∧ (yn_G_keyPlace).cls ≠ "java/lang/invoke/VarHandle" ∧ (parseMethodDescriptor (yn_G_keyPlace).desc).map (fun d => d.parameters.length) = some 1 := by decide +kernel
theorem hd_X_writeWord : (yn_X_writeWord).cls ≠ "java/lang/invoke/MethodHandle" ∧ (yn_X_writeWord).cls ≠ "java/lang/invoke/VarHandle" ∧ (parseMethodDescriptor (yn_X_writeWord).desc).map (fun d => d.parameters.length) = some 2 := by decide +kernel
theorem hd_G_store : (yn_G_store).cls ≠ "java/lang/invoke/MethodHandle" ∧ (yn_G_store).cls ≠ "java/lang/invoke/VarHandle" ∧ (parseMethodDescriptor (yn_G_store).desc).map (fun d => d.parameters.length) = some 2 := by decide +kernel
theorem hd_G_hasPlace : (yn_G_hasPlace).cls ≠ "java/lang/invoke/MethodHandle" ∧ (yn_G_hasPlace).cls ≠ "java/lang/invoke/VarHandle" ∧ (parseMethodDescriptor (yn_G_hasPlace).desc).map (fun d => d.parameters.length) = some 1 := by decide +kernel
theorem hd_X_writeDraft : (yn_X_writeDraft).cls ≠ "java/lang/invoke/MethodHandle" ∧ (yn_X_writeDraft).cls ≠ "java/lang/invoke/VarHandle" ∧ (parseMethodDescriptor (yn_X_writeDraft).desc).map (fun d => d.parameters.length) = some 0 := by decide +kernel
theorem hd_C_recordCount : (yn_C_recordCount).cls ≠ "java/lang/invoke/MethodHandle" ∧ (yn_C_recordCount).cls ≠ "java/lang/invoke/VarHandle" ∧ (parseMethodDescriptor (yn_C_recordCount).desc).map (fun d => d.parameters.length) = some 0 := by decide +kernel
theorem hd_G_recordPlace : (yn_G_recordPlace).cls ≠ "java/lang/invoke/MethodHandle" ∧ (yn_G_recordPlace).cls ≠ "java/lang/invoke/VarHandle" ∧ (parseMethodDescriptor (yn_G_recordPlace).desc).map (fun d => d.parameters.length) = some 1 := by decide +kernel
theorem hd_C_enter : (yn_C_enter).cls ≠ "java/lang/invoke/MethodHandle" ∧ (yn_C_enter).cls ≠ "java/lang/invoke/VarHandle" ∧ (parseMethodDescriptor (yn_C_enter).desc).map (fun d => d.parameters.length) = some 3 := by decide +kernel
theorem hd_C_addObject : (yn_C_addObject).cls ≠ "java/lang/invoke/MethodHandle" ∧ (yn_C_addObject).cls ≠ "java/lang/invoke/VarHandle" ∧ (parseMethodDescriptor (yn_C_addObject).desc).map (fun d => d.parameters.length) = some 1 := by decide +kernel
theorem hd_C_changeObject : (yn_C_changeObject).cls ≠ "java/lang/invoke/MethodHandle" ∧ (yn_C_changeObject).cls ≠ "java/lang/invoke/VarHandle" ∧ (parseMethodDescriptor (yn_C_changeObject).desc).map (fun d => d.parameters.length) = some 3 := by decide +kernel
theorem hd_X_extend : (yn_X_extend).cls ≠ "java/lang/invoke/MethodHandle" ∧ (yn_X_extend).cls ≠ "java/lang/invoke/VarHandle" ∧ (parseMethodDescriptor (yn_X_extend).desc).map (fun d => d.parameters.length) = some 2 := by decide +kernel
theorem hd_X_change : (yn_X_change).cls ≠ "java/lang/invoke/MethodHandle" ∧ (yn_X_change).cls ≠ "java/lang/invoke/VarHandle" ∧ (parseMethodDescriptor (yn_X_change).desc).map (fun d => d.parameters.length) = some 3 := by decide +kernel
theorem hd_X_hold : (yn_X_hold).cls ≠ "java/lang/invoke/MethodHandle" ∧ (yn_X_hold).cls ≠ "java/lang/invoke/VarHandle" ∧ (parseMethodDescriptor (yn_X_hold).desc).map (fun d => d.parameters.length) = some 3 := by decide +kernel
theorem hd_X_delete : (yn_X_delete).cls ≠ "java/lang/invoke/MethodHandle" ∧ (yn_X_delete).cls ≠ "java/lang/invoke/VarHandle" ∧ (parseMethodDescriptor (yn_X_delete).desc).map (fun d => d.parameters.length) = some 1 := by decide +kernel
theorem hd_X_shred : (yn_X_shred).cls ≠ "java/lang/invoke/MethodHandle" ∧ (yn_X_shred).cls ≠ "java/lang/invoke/VarHandle" ∧ (parseMethodDescriptor (yn_X_shred).desc).map (fun d => d.parameters.length) = some 1 := by decide +kernel
theorem hd_X_tick : (yn_X_tick).cls ≠ "java/lang/invoke/MethodHandle" ∧ (yn_X_tick).cls ≠ "java/lang/invoke/VarHandle" ∧ (parseMethodDescriptor (yn_X_tick).desc).map (fun d => d.parameters.length) = some 1 := by decide +kernel
theorem hd_X_get : (yn_X_get).cls ≠ "java/lang/invoke/MethodHandle" ∧ (yn_X_get).cls ≠ "java/lang/invoke/VarHandle" ∧ (parseMethodDescriptor (yn_X_get).desc).map (fun d => d.parameters.length) = some 2 := by decide +kernel
theorem hd_C_isLive : (yn_C_isLive).cls ≠ "java/lang/invoke/MethodHandle" ∧ (yn_C_isLive).cls ≠ "java/lang/invoke/VarHandle" ∧ (parseMethodDescriptor (yn_C_isLive).desc).map (fun d => d.parameters.length) = some 1 := by decide +kernel
theorem hd_C_putRecordOf : (yn_C_putRecordOf).cls ≠ "java/lang/invoke/MethodHandle" ∧ (yn_C_putRecordOf).cls ≠ "java/lang/invoke/VarHandle" ∧ (parseMethodDescriptor (yn_C_putRecordOf).desc).map (fun d => d.parameters.length) = some 1 := by decide +kernel
theorem hd_G_field : (yn_G_field).cls ≠ "java/lang/invoke/MethodHandle" ∧ (yn_G_field).cls ≠ "java/lang/invoke/VarHandle" ∧ (parseMethodDescriptor (yn_G_field).desc).map (fun d => d.parameters.length) = some 2 := by decide +kernel
theorem hd_G_read : (yn_G_read).cls ≠ "java/lang/invoke/MethodHandle" ∧ (yn_G_read).cls ≠ "java/lang/invoke/VarHandle" ∧ (parseMethodDescriptor (yn_G_read).desc).map (fun d => d.parameters.length) = some 1 := by decide +kernel
theorem hd_X_look : (yn_X_look).cls ≠ "java/lang/invoke/MethodHandle" ∧ (yn_X_look).cls ≠ "java/lang/invoke/VarHandle" ∧ (parseMethodDescriptor (yn_X_look).desc).map (fun d => d.parameters.length) = some 2 := by decide +kernel
theorem hd_C_dateOf : (yn_C_dateOf).cls ≠ "java/lang/invoke/MethodHandle" ∧ (yn_C_dateOf).cls ≠ "java/lang/invoke/VarHandle" ∧ (parseMethodDescriptor (yn_C_dateOf).desc).map (fun d => d.parameters.length) = some 1 := by decide +kernel
theorem hd_C_holdsOf : (yn_C_holdsOf).cls ≠ "java/lang/invoke/MethodHandle" ∧ (yn_C_holdsOf).cls ≠ "java/lang/invoke/VarHandle" ∧ (parseMethodDescriptor (yn_C_holdsOf).desc).map (fun d => d.parameters.length) = some 1 := by decide +kernel
theorem hd_X_records : (yn_X_records).cls ≠ "java/lang/invoke/MethodHandle" ∧ (yn_X_records).cls ≠ "java/lang/invoke/VarHandle" ∧ (parseMethodDescriptor (yn_X_records).desc).map (fun d => d.parameters.length) = some 0 := by decide +kernel
theorem hd_X_root : (yn_X_root).cls ≠ "java/lang/invoke/MethodHandle" ∧ (yn_X_root).cls ≠ "java/lang/invoke/VarHandle" ∧ (parseMethodDescriptor (yn_X_root).desc).map (fun d => d.parameters.length) = some 1 := by decide +kernel
theorem hd_G_rootOf : (yn_G_rootOf).cls ≠ "java/lang/invoke/MethodHandle" ∧ (yn_G_rootOf).cls ≠ "java/lang/invoke/VarHandle" ∧ (parseMethodDescriptor (yn_G_rootOf).desc).map (fun d => d.parameters.length) = some 1 := by decide +kernel
theorem hd_G_tree : (yn_G_tree).cls ≠ "java/lang/invoke/MethodHandle" ∧ (yn_G_tree).cls ≠ "java/lang/invoke/VarHandle" ∧ (parseMethodDescriptor (yn_G_tree).desc).map (fun d => d.parameters.length) = some 2 := by decide +kernel
theorem hd_G_leaf : (yn_G_leaf).cls ≠ "java/lang/invoke/MethodHandle" ∧ (yn_G_leaf).cls ≠ "java/lang/invoke/VarHandle" ∧ (parseMethodDescriptor (yn_G_leaf).desc).map (fun d => d.parameters.length) = some 1 := by decide +kernel
theorem hd_G_joinNeighbours : (yn_G_joinNeighbours).cls ≠ "java/lang/invoke/MethodHandle" ∧ (yn_G_joinNeighbours).cls ≠ "java/lang/invoke/VarHandle" ∧ (parseMethodDescriptor (yn_G_joinNeighbours).desc).map (fun d => d.parameters.length) = some 1 := by decide +kernel
theorem hd_H_node : (yn_H_node).cls ≠ "java/lang/invoke/MethodHandle" ∧ (yn_H_node).cls ≠ "java/lang/invoke/VarHandle" ∧ (parseMethodDescriptor (yn_H_node).desc).map (fun d => d.parameters.length) = some 2 := by decide +kernel
theorem hd_X_path : (yn_X_path).cls ≠ "java/lang/invoke/MethodHandle" ∧ (yn_X_path).cls ≠ "java/lang/invoke/VarHandle" ∧ (parseMethodDescriptor (yn_X_path).desc).map (fun d => d.parameters.length) = some 3 := by decide +kernel
theorem hd_E_toLeaf : (yn_E_toLeaf).cls ≠ "java/lang/invoke/MethodHandle" ∧ (yn_E_toLeaf).cls ≠ "java/lang/invoke/VarHandle" ∧ (parseMethodDescriptor (yn_E_toLeaf).desc).map (fun d => d.parameters.length) = some 2 := by decide +kernel
theorem hd_E_goDown : (yn_E_goDown).cls ≠ "java/lang/invoke/MethodHandle" ∧ (yn_E_goDown).cls ≠ "java/lang/invoke/VarHandle" ∧ (parseMethodDescriptor (yn_E_goDown).desc).map (fun d => d.parameters.length) = some 3 := by decide +kernel
theorem hd_E_stepTowards : (yn_E_stepTowards).cls ≠ "java/lang/invoke/MethodHandle" ∧ (yn_E_stepTowards).cls ≠ "java/lang/invoke/VarHandle" ∧ (parseMethodDescriptor (yn_E_stepTowards).desc).map (fun d => d.parameters.length) = some 2 := by decide +kernel
theorem hd_J_highestOneBit : (yn_J_highestOneBit).cls ≠ "java/lang/invoke/MethodHandle" ∧ (yn_J_highestOneBit).cls ≠ "java/lang/invoke/VarHandle" ∧ (parseMethodDescriptor (yn_J_highestOneBit).desc).map (fun d => d.parameters.length) = some 1 := by decide +kernel
theorem hd_J_numberOfLeadingZeros : (yn_J_numberOfLeadingZeros).cls ≠ "java/lang/invoke/MethodHandle" ∧ (yn_J_numberOfLeadingZeros).cls ≠ "java/lang/invoke/VarHandle" ∧ (parseMethodDescriptor (yn_J_numberOfLeadingZeros).desc).map (fun d => d.parameters.length) = some 1 := by decide +kernel
theorem hd_X_digestOnTheWay : (yn_X_digestOnTheWay).cls ≠ "java/lang/invoke/MethodHandle" ∧ (yn_X_digestOnTheWay).cls ≠ "java/lang/invoke/VarHandle" ∧ (parseMethodDescriptor (yn_X_digestOnTheWay).desc).map (fun d => d.parameters.length) = some 1 := by decide +kernel
theorem hd_E_digestCount : (yn_E_digestCount).cls ≠ "java/lang/invoke/MethodHandle" ∧ (yn_E_digestCount).cls ≠ "java/lang/invoke/VarHandle" ∧ (parseMethodDescriptor (yn_E_digestCount).desc).map (fun d => d.parameters.length) = some 0 := by decide +kernel
theorem hd_E_firstUnder : (yn_E_firstUnder).cls ≠ "java/lang/invoke/MethodHandle" ∧ (yn_E_firstUnder).cls ≠ "java/lang/invoke/VarHandle" ∧ (parseMethodDescriptor (yn_E_firstUnder).desc).map (fun d => d.parameters.length) = some 1 := by decide +kernel
theorem hd_E_stepOf : (yn_E_stepOf).cls ≠ "java/lang/invoke/MethodHandle" ∧ (yn_E_stepOf).cls ≠ "java/lang/invoke/VarHandle" ∧ (parseMethodDescriptor (yn_E_stepOf).desc).map (fun d => d.parameters.length) = some 1 := by decide +kernel
theorem hd_E_countUnder : (yn_E_countUnder).cls ≠ "java/lang/invoke/MethodHandle" ∧ (yn_E_countUnder).cls ≠ "java/lang/invoke/VarHandle" ∧ (parseMethodDescriptor (yn_E_countUnder).desc).map (fun d => d.parameters.length) = some 1 := by decide +kernel
theorem hd_X_bridge : (yn_X_bridge).cls ≠ "java/lang/invoke/MethodHandle" ∧ (yn_X_bridge).cls ≠ "java/lang/invoke/VarHandle" ∧ (parseMethodDescriptor (yn_X_bridge).desc).map (fun d => d.parameters.length) = some 3 := by decide +kernel
theorem hd_E_toEdge : (yn_E_toEdge).cls ≠ "java/lang/invoke/MethodHandle" ∧ (yn_E_toEdge).cls ≠ "java/lang/invoke/VarHandle" ∧ (parseMethodDescriptor (yn_E_toEdge).desc).map (fun d => d.parameters.length) = some 2 := by decide +kernel
theorem hd_X_feed : (yn_X_feed).cls ≠ "java/lang/invoke/MethodHandle" ∧ (yn_X_feed).cls ≠ "java/lang/invoke/VarHandle" ∧ (parseMethodDescriptor (yn_X_feed).desc).map (fun d => d.parameters.length) = some 1 := by decide +kernel
theorem hd_F_add : (yn_F_add).cls ≠ "java/lang/invoke/MethodHandle" ∧ (yn_F_add).cls ≠ "java/lang/invoke/VarHandle" ∧ (parseMethodDescriptor (yn_F_add).desc).map (fun d => d.parameters.length) = some 1 := by decide +kernel
theorem hd_X_included : (yn_X_included).cls ≠ "java/lang/invoke/MethodHandle" ∧ (yn_X_included).cls ≠ "java/lang/invoke/VarHandle" ∧ (parseMethodDescriptor (yn_X_included).desc).map (fun d => d.parameters.length) = some 3 := by decide +kernel
theorem hd_F_proveLeaf : (yn_F_proveLeaf).cls ≠ "java/lang/invoke/MethodHandle" ∧ (yn_F_proveLeaf).cls ≠ "java/lang/invoke/VarHandle" ∧ (parseMethodDescriptor (yn_F_proveLeaf).desc).map (fun d => d.parameters.length) = some 2 := by decide +kernel
theorem hd_E_wentRightAbove : (yn_E_wentRightAbove).cls ≠ "java/lang/invoke/MethodHandle" ∧ (yn_E_wentRightAbove).cls ≠ "java/lang/invoke/VarHandle" ∧ (parseMethodDescriptor (yn_E_wentRightAbove).desc).map (fun d => d.parameters.length) = some 1 := by decide +kernel
theorem hd_F_clear : (yn_F_clear).cls ≠ "java/lang/invoke/MethodHandle" ∧ (yn_F_clear).cls ≠ "java/lang/invoke/VarHandle" ∧ (parseMethodDescriptor (yn_F_clear).desc).map (fun d => d.parameters.length) = some 0 := by decide +kernel
theorem hd_X_extended : (yn_X_extended).cls ≠ "java/lang/invoke/MethodHandle" ∧ (yn_X_extended).cls ≠ "java/lang/invoke/VarHandle" ∧ (parseMethodDescriptor (yn_X_extended).desc).map (fun d => d.parameters.length) = some 4 := by decide +kernel
theorem hd_F_proveGrowth : (yn_F_proveGrowth).cls ≠ "java/lang/invoke/MethodHandle" ∧ (yn_F_proveGrowth).cls ≠ "java/lang/invoke/VarHandle" ∧ (parseMethodDescriptor (yn_F_proveGrowth).desc).map (fun d => d.parameters.length) = some 3 := by decide +kernel
theorem hd_E_showsFoot : (yn_E_showsFoot).cls ≠ "java/lang/invoke/MethodHandle" ∧ (yn_E_showsFoot).cls ≠ "java/lang/invoke/VarHandle" ∧ (parseMethodDescriptor (yn_E_showsFoot).desc).map (fun d => d.parameters.length) = some 0 := by decide +kernel
theorem hd_X_word : (yn_X_word).cls ≠ "java/lang/invoke/MethodHandle" ∧ (yn_X_word).cls ≠ "java/lang/invoke/VarHandle" ∧ (parseMethodDescriptor (yn_X_word).desc).map (fun d => d.parameters.length) = some 1 := by decide +kernel
theorem hd_X_alter : (yn_X_alter).cls ≠ "java/lang/invoke/MethodHandle" ∧ (yn_X_alter).cls ≠ "java/lang/invoke/VarHandle" ∧ (parseMethodDescriptor (yn_X_alter).desc).map (fun d => d.parameters.length) = some 2 := by decide +kernel
theorem hd_X_power : (yn_X_power).cls ≠ "java/lang/invoke/MethodHandle" ∧ (yn_X_power).cls ≠ "java/lang/invoke/VarHandle" ∧ (parseMethodDescriptor (yn_X_power).desc).map (fun d => d.parameters.length) = some 1 := by decide +kernel
theorem hd_C_replay : (yn_C_replay).cls ≠ "java/lang/invoke/MethodHandle" ∧ (yn_C_replay).cls ≠ "java/lang/invoke/VarHandle" ∧ (parseMethodDescriptor (yn_C_replay).desc).map (fun d => d.parameters.length) = some 2 := by decide +kernel
theorem hd_C_isSoundNext : (yn_C_isSoundNext).cls ≠ "java/lang/invoke/MethodHandle" ∧ (yn_C_isSoundNext).cls ≠ "java/lang/invoke/VarHandle" ∧ (parseMethodDescriptor (yn_C_isSoundNext).desc).map (fun d => d.parameters.length) = some 3 := by decide +kernel
theorem hd_G_checkIsRight : (yn_G_checkIsRight).cls ≠ "java/lang/invoke/MethodHandle" ∧ (yn_G_checkIsRight).cls ≠ "java/lang/invoke/VarHandle" ∧ (parseMethodDescriptor (yn_G_checkIsRight).desc).map (fun d => d.parameters.length) = some 1 := by decide +kernel
theorem hd_C_isTimely : (yn_C_isTimely).cls ≠ "java/lang/invoke/MethodHandle" ∧ (yn_C_isTimely).cls ≠ "java/lang/invoke/VarHandle" ∧ (parseMethodDescriptor (yn_C_isTimely).desc).map (fun d => d.parameters.length) = some 3 := by decide +kernel
theorem hd_C_isWellFormed : (yn_C_isWellFormed).cls ≠ "java/lang/invoke/MethodHandle" ∧ (yn_C_isWellFormed).cls ≠ "java/lang/invoke/VarHandle" ∧ (parseMethodDescriptor (yn_C_isWellFormed).desc).map (fun d => d.parameters.length) = some 2 := by decide +kernel
theorem hd_X_wipeWhatIsNotSound : (yn_X_wipeWhatIsNotSound).cls ≠ "java/lang/invoke/MethodHandle" ∧ (yn_X_wipeWhatIsNotSound).cls ≠ "java/lang/invoke/VarHandle" ∧ (parseMethodDescriptor (yn_X_wipeWhatIsNotSound).desc).map (fun d => d.parameters.length) = some 0 := by decide +kernel
theorem hd_G_wipeRecordsFrom : (yn_G_wipeRecordsFrom).cls ≠ "java/lang/invoke/MethodHandle" ∧ (yn_G_wipeRecordsFrom).cls ≠ "java/lang/invoke/VarHandle" ∧ (parseMethodDescriptor (yn_G_wipeRecordsFrom).desc).map (fun d => d.parameters.length) = some 1 := by decide +kernel
theorem hd_C_mayKeepKey : (yn_C_mayKeepKey).cls ≠ "java/lang/invoke/MethodHandle" ∧ (yn_C_mayKeepKey).cls ≠ "java/lang/invoke/VarHandle" ∧ (parseMethodDescriptor (yn_C_mayKeepKey).desc).map (fun d => d.parameters.length) = some 1 := by decide +kernel
theorem hd_X_cut : (yn_X_cut).cls ≠ "java/lang/invoke/MethodHandle" ∧ (yn_X_cut).cls ≠ "java/lang/invoke/VarHandle" ∧ (parseMethodDescriptor (yn_X_cut).desc).map (fun d => d.parameters.length) = some 1 := by decide +kernel
theorem hd_X_audit : (yn_X_audit).cls ≠ "java/lang/invoke/MethodHandle" ∧ (yn_X_audit).cls ≠ "java/lang/invoke/VarHandle" ∧ (parseMethodDescriptor (yn_X_audit).desc).map (fun d => d.parameters.length) = some 2 := by decide +kernel
theorem hd_M_init : (yn_M_init).cls ≠ "java/lang/invoke/MethodHandle" ∧ (yn_M_init).cls ≠ "java/lang/invoke/VarHandle" ∧ (parseMethodDescriptor (yn_M_init).desc).map (fun d => d.parameters.length) = some 0 := by decide +kernel
theorem hd_M_put : (yn_M_put).cls ≠ "java/lang/invoke/MethodHandle" ∧ (yn_M_put).cls ≠ "java/lang/invoke/VarHandle" ∧ (parseMethodDescriptor (yn_M_put).desc).map (fun d => d.parameters.length) = some 4 := by decide +kernel
theorem hd_M_refusal : (yn_M_refusal).cls ≠ "java/lang/invoke/MethodHandle" ∧ (yn_M_refusal).cls ≠ "java/lang/invoke/VarHandle" ∧ (parseMethodDescriptor (yn_M_refusal).desc).map (fun d => d.parameters.length) = some 3 := by decide +kernel
theorem hd_M_goThrough : (yn_M_goThrough).cls ≠ "java/lang/invoke/MethodHandle" ∧ (yn_M_goThrough).cls ≠ "java/lang/invoke/VarHandle" ∧ (parseMethodDescriptor (yn_M_goThrough).desc).map (fun d => d.parameters.length) = some 0 := by decide +kernel
theorem hd_M_soundNext : (yn_M_soundNext).cls ≠ "java/lang/invoke/MethodHandle" ∧ (yn_M_soundNext).cls ≠ "java/lang/invoke/VarHandle" ∧ (parseMethodDescriptor (yn_M_soundNext).desc).map (fun d => d.parameters.length) = some 2 := by decide +kernel
theorem hd_M_leaf : (yn_M_leaf).cls ≠ "java/lang/invoke/MethodHandle" ∧ (yn_M_leaf).cls ≠ "java/lang/invoke/VarHandle" ∧ (parseMethodDescriptor (yn_M_leaf).desc).map (fun d => d.parameters.length) = some 1 := by decide +kernel
theorem hd_M_mix : (yn_M_mix).cls ≠ "java/lang/invoke/MethodHandle" ∧ (yn_M_mix).cls ≠ "java/lang/invoke/VarHandle" ∧ (parseMethodDescriptor (yn_M_mix).desc).map (fun d => d.parameters.length) = some 2 := by decide +kernel
theorem hd_M_rule : (yn_M_rule).cls ≠ "java/lang/invoke/MethodHandle" ∧ (yn_M_rule).cls ≠ "java/lang/invoke/VarHandle" ∧ (parseMethodDescriptor (yn_M_rule).desc).map (fun d => d.parameters.length) = some 4 := by decide +kernel
theorem hd_M_apply : (yn_M_apply).cls ≠ "java/lang/invoke/MethodHandle" ∧ (yn_M_apply).cls ≠ "java/lang/invoke/VarHandle" ∧ (parseMethodDescriptor (yn_M_apply).desc).map (fun d => d.parameters.length) = some 3 := by decide +kernel
theorem hd_M_write : (yn_M_write).cls ≠ "java/lang/invoke/MethodHandle" ∧ (yn_M_write).cls ≠ "java/lang/invoke/VarHandle" ∧ (parseMethodDescriptor (yn_M_write).desc).map (fun d => d.parameters.length) = some 2 := by decide +kernel
theorem hd_M_enroll : (yn_M_enroll).cls ≠ "java/lang/invoke/MethodHandle" ∧ (yn_M_enroll).cls ≠ "java/lang/invoke/VarHandle" ∧ (parseMethodDescriptor (yn_M_enroll).desc).map (fun d => d.parameters.length) = some 5 := by decide +kernel
theorem hd_M_extend : (yn_M_extend).cls ≠ "java/lang/invoke/MethodHandle" ∧ (yn_M_extend).cls ≠ "java/lang/invoke/VarHandle" ∧ (parseMethodDescriptor (yn_M_extend).desc).map (fun d => d.parameters.length) = some 2 := by decide +kernel
theorem hd_M_plain : (yn_M_plain).cls ≠ "java/lang/invoke/MethodHandle" ∧ (yn_M_plain).cls ≠ "java/lang/invoke/VarHandle" ∧ (parseMethodDescriptor (yn_M_plain).desc).map (fun d => d.parameters.length) = some 3 := by decide +kernel
theorem hd_M_hold : (yn_M_hold).cls ≠ "java/lang/invoke/MethodHandle" ∧ (yn_M_hold).cls ≠ "java/lang/invoke/VarHandle" ∧ (parseMethodDescriptor (yn_M_hold).desc).map (fun d => d.parameters.length) = some 3 := by decide +kernel
theorem hd_M_delete : (yn_M_delete).cls ≠ "java/lang/invoke/MethodHandle" ∧ (yn_M_delete).cls ≠ "java/lang/invoke/VarHandle" ∧ (parseMethodDescriptor (yn_M_delete).desc).map (fun d => d.parameters.length) = some 1 := by decide +kernel
theorem hd_M_shred : (yn_M_shred).cls ≠ "java/lang/invoke/MethodHandle" ∧ (yn_M_shred).cls ≠ "java/lang/invoke/VarHandle" ∧ (parseMethodDescriptor (yn_M_shred).desc).map (fun d => d.parameters.length) = some 1 := by decide +kernel
theorem hd_M_tick : (yn_M_tick).cls ≠ "java/lang/invoke/MethodHandle" ∧ (yn_M_tick).cls ≠ "java/lang/invoke/VarHandle" ∧ (parseMethodDescriptor (yn_M_tick).desc).map (fun d => d.parameters.length) = some 1 := by decide +kernel
theorem hd_M_get : (yn_M_get).cls ≠ "java/lang/invoke/MethodHandle" ∧ (yn_M_get).cls ≠ "java/lang/invoke/VarHandle" ∧ (parseMethodDescriptor (yn_M_get).desc).map (fun d => d.parameters.length) = some 2 := by decide +kernel
theorem hd_M_look : (yn_M_look).cls ≠ "java/lang/invoke/MethodHandle" ∧ (yn_M_look).cls ≠ "java/lang/invoke/VarHandle" ∧ (parseMethodDescriptor (yn_M_look).desc).map (fun d => d.parameters.length) = some 2 := by decide +kernel
theorem hd_M_records : (yn_M_records).cls ≠ "java/lang/invoke/MethodHandle" ∧ (yn_M_records).cls ≠ "java/lang/invoke/VarHandle" ∧ (parseMethodDescriptor (yn_M_records).desc).map (fun d => d.parameters.length) = some 0 := by decide +kernel
theorem hd_M_root : (yn_M_root).cls ≠ "java/lang/invoke/MethodHandle" ∧ (yn_M_root).cls ≠ "java/lang/invoke/VarHandle" ∧ (parseMethodDescriptor (yn_M_root).desc).map (fun d => d.parameters.length) = some 1 := by decide +kernel
theorem hd_M_tree : (yn_M_tree).cls ≠ "java/lang/invoke/MethodHandle" ∧ (yn_M_tree).cls ≠ "java/lang/invoke/VarHandle" ∧ (parseMethodDescriptor (yn_M_tree).desc).map (fun d => d.parameters.length) = some 2 := by decide +kernel
theorem hd_M_node : (yn_M_node).cls ≠ "java/lang/invoke/MethodHandle" ∧ (yn_M_node).cls ≠ "java/lang/invoke/VarHandle" ∧ (parseMethodDescriptor (yn_M_node).desc).map (fun d => d.parameters.length) = some 2 := by decide +kernel
theorem hd_M_path : (yn_M_path).cls ≠ "java/lang/invoke/MethodHandle" ∧ (yn_M_path).cls ≠ "java/lang/invoke/VarHandle" ∧ (parseMethodDescriptor (yn_M_path).desc).map (fun d => d.parameters.length) = some 3 := by decide +kernel
theorem hd_M_wayToLeaf : (yn_M_wayToLeaf).cls ≠ "java/lang/invoke/MethodHandle" ∧ (yn_M_wayToLeaf).cls ≠ "java/lang/invoke/VarHandle" ∧ (parseMethodDescriptor (yn_M_wayToLeaf).desc).map (fun d => d.parameters.length) = some 2 := by decide +kernel
theorem hd_M_half : (yn_M_half).cls ≠ "java/lang/invoke/MethodHandle" ∧ (yn_M_half).cls ≠ "java/lang/invoke/VarHandle" ∧ (parseMethodDescriptor (yn_M_half).desc).map (fun d => d.parameters.length) = some 1 := by decide +kernel
theorem hd_M_step : (yn_M_step).cls ≠ "java/lang/invoke/MethodHandle" ∧ (yn_M_step).cls ≠ "java/lang/invoke/VarHandle" ∧ (parseMethodDescriptor (yn_M_step).desc).map (fun d => d.parameters.length) = some 3 := by decide +kernel
theorem hd_M_digest : (yn_M_digest).cls ≠ "java/lang/invoke/MethodHandle" ∧ (yn_M_digest).cls ≠ "java/lang/invoke/VarHandle" ∧ (parseMethodDescriptor (yn_M_digest).desc).map (fun d => d.parameters.length) = some 1 := by decide +kernel
theorem hd_M_bridge : (yn_M_bridge).cls ≠ "java/lang/invoke/MethodHandle" ∧ (yn_M_bridge).cls ≠ "java/lang/invoke/VarHandle" ∧ (parseMethodDescriptor (yn_M_bridge).desc).map (fun d => d.parameters.length) = some 3 := by decide +kernel
theorem hd_M_wayToEnd : (yn_M_wayToEnd).cls ≠ "java/lang/invoke/MethodHandle" ∧ (yn_M_wayToEnd).cls ≠ "java/lang/invoke/VarHandle" ∧ (parseMethodDescriptor (yn_M_wayToEnd).desc).map (fun d => d.parameters.length) = some 2 := by decide +kernel
theorem hd_M_feed : (yn_M_feed).cls ≠ "java/lang/invoke/MethodHandle" ∧ (yn_M_feed).cls ≠ "java/lang/invoke/VarHandle" ∧ (parseMethodDescriptor (yn_M_feed).desc).map (fun d => d.parameters.length) = some 1 := by decide +kernel
theorem hd_M_included : (yn_M_included).cls ≠ "java/lang/invoke/MethodHandle" ∧ (yn_M_included).cls ≠ "java/lang/invoke/VarHandle" ∧ (parseMethodDescriptor (yn_M_included).desc).map (fun d => d.parameters.length) = some 3 := by decide +kernel
theorem hd_M_extended : (yn_M_extended).cls ≠ "java/lang/invoke/MethodHandle" ∧ (yn_M_extended).cls ≠ "java/lang/invoke/VarHandle" ∧ (parseMethodDescriptor (yn_M_extended).desc).map (fun d => d.parameters.length) = some 4 := by decide +kernel
theorem hd_M_word : (yn_M_word).cls ≠ "java/lang/invoke/MethodHandle" ∧ (yn_M_word).cls ≠ "java/lang/invoke/VarHandle" ∧ (parseMethodDescriptor (yn_M_word).desc).map (fun d => d.parameters.length) = some 1 := by decide +kernel
theorem hd_M_alter : (yn_M_alter).cls ≠ "java/lang/invoke/MethodHandle" ∧ (yn_M_alter).cls ≠ "java/lang/invoke/VarHandle" ∧ (parseMethodDescriptor (yn_M_alter).desc).map (fun d => d.parameters.length) = some 2 := by decide +kernel
theorem hd_M_power : (yn_M_power).cls ≠ "java/lang/invoke/MethodHandle" ∧ (yn_M_power).cls ≠ "java/lang/invoke/VarHandle" ∧ (parseMethodDescriptor (yn_M_power).desc).map (fun d => d.parameters.length) = some 1 := by decide +kernel
theorem hd_M_cut : (yn_M_cut).cls ≠ "java/lang/invoke/MethodHandle" ∧ (yn_M_cut).cls ≠ "java/lang/invoke/VarHandle" ∧ (parseMethodDescriptor (yn_M_cut).desc).map (fun d => d.parameters.length) = some 1 := by decide +kernel
theorem hd_M_audit : (yn_M_audit).cls ≠ "java/lang/invoke/MethodHandle" ∧ (yn_M_audit).cls ≠ "java/lang/invoke/VarHandle" ∧ (parseMethodDescriptor (yn_M_audit).desc).map (fun d => d.parameters.length) = some 2 := by decide +kernel
end
section
theorem dn_J_rotateLeft_0 : decode cn_J_rotateLeft 0 = .ok (.iload_n 0, 1) := by decide +kernel
theorem dn_J_rotateLeft_1 : decode cn_J_rotateLeft 1 = .ok (.iload_n 1, 1) := by decide +kernel
theorem dn_J_rotateLeft_2 : decode cn_J_rotateLeft 2 = .ok (.ishl, 1) := by decide +kernel
theorem dn_J_rotateLeft_3 : decode cn_J_rotateLeft 3 = .ok (.iload_n 0, 1) := by decide +kernel
theorem dn_J_rotateLeft_4 : decode cn_J_rotateLeft 4 = .ok (.iload_n 1, 1) := by decide +kernel
theorem dn_J_rotateLeft_5 : decode cn_J_rotateLeft 5 = .ok (.ineg, 1) := by decide +kernel
theorem dn_J_rotateLeft_6 : decode cn_J_rotateLeft 6 = .ok (.iushr, 1) := by decide +kernel
theorem dn_J_rotateLeft_7 : decode cn_J_rotateLeft 7 = .ok (.ior, 1) := by decide +kernel
theorem dn_J_rotateLeft_8 : decode cn_J_rotateLeft 8 = .ok (.ireturn, 1) := by decide +kernel
theorem dn_H_mix_0 : decode cn_H_mix 0 = .ok (.iload_n 0, 1) := by decide +kernel
theorem dn_H_mix_1 : decode cn_H_mix 1 = .ok (.bipush 11, 2) := by decide +kernel
theorem dn_H_mix_3 : decode cn_H_mix 3 = .ok (.invokestatic 7, 3) := by decide +kernel
theorem dn_H_mix_6 : decode cn_H_mix 6 = .ok (.iload_n 1, 1) := by decide +kernel
theorem dn_H_mix_7 : decode cn_H_mix 7 = .ok (.ixor, 1) := by decide +kernel
theorem dn_H_mix_8 : decode cn_H_mix 8 = .ok (.ldc 13, 2) := by decide +kernel
theorem dn_H_mix_10 : decode cn_H_mix 10 = .ok (.imul, 1) := by decide +kernel
theorem dn_H_mix_11 : decode cn_H_mix 11 = .ok (.sipush 12345, 3) := by decide +kernel
theorem dn_H_mix_14 : decode cn_H_mix 14 = .ok (.iadd, 1) := by decide +kernel
theorem dn_H_mix_15 : decode cn_H_mix 15 = .ok (.istore_n 2, 1) := by decide +kernel
theorem dn_H_mix_16 : decode cn_H_mix 16 = .ok (.iload_n 2, 1) := by decide +kernel
theorem dn_H_mix_17 : decode cn_H_mix 17 = .ok (.iload_n 2, 1) := by decide +kernel
theorem dn_H_mix_18 : decode cn_H_mix 18 = .ok (.bipush 15, 2) := by decide +kernel
theorem dn_H_mix_20 : decode cn_H_mix 20 = .ok (.iushr, 1) := by decide +kernel
theorem dn_H_mix_21 : decode cn_H_mix 21 = .ok (.ixor, 1) := by decide +kernel
theorem dn_H_mix_22 : decode cn_H_mix 22 = .ok (.ireturn, 1) := by decide +kernel
theorem dn_H_node_0 : decode cn_H_node 0 = .ok (.iconst 2, 1) := by decide +kernel
theorem dn_H_node_1 : decode cn_H_node 1 = .ok (.iload_n 0, 1) := by decide +kernel
theorem dn_H_node_2 : decode cn_H_node 2 = .ok (.invokestatic 14, 3) := by decide +kernel
theorem dn_H_node_5 : decode cn_H_node 5 = .ok (.iload_n 1, 1) := by decide +kernel
theorem dn_H_node_6 : decode cn_H_node 6 = .ok (.invokestatic 14, 3) := by decide +kernel
theorem dn_H_node_9 : decode cn_H_node 9 = .ok (.ireturn, 1) := by decide +kernel
theorem dn_H_pad_0 : decode cn_H_pad 0 = .ok (.iload_n 0, 1) := by decide +kernel
theorem dn_H_pad_1 : decode cn_H_pad 1 = .ok (.iload_n 1, 1) := by decide +kernel
theorem dn_H_pad_2 : decode cn_H_pad 2 = .ok (.invokestatic 14, 3) := by decide +kernel
theorem dn_H_pad_5 : decode cn_H_pad 5 = .ok (.iload_n 2, 1) := by decide +kernel
theorem dn_H_pad_6 : decode cn_H_pad 6 = .ok (.invokestatic 14, 3) := by decide +kernel
theorem dn_H_pad_9 : decode cn_H_pad 9 = .ok (.ireturn, 1) := by decide +kernel
theorem dn_H_leafAt_0 : decode cn_H_leafAt 0 = .ok (.iconst 1, 1) := by decide +kernel
theorem dn_H_leafAt_1 : decode cn_H_leafAt 1 = .ok (.istore_n 2, 1) := by decide +kernel
theorem dn_H_leafAt_2 : decode cn_H_leafAt 2 = .ok (.iload_n 1, 1) := by decide +kernel
theorem dn_H_leafAt_3 : decode cn_H_leafAt 3 = .ok (.ifCond .lt 12, 3) := by decide +kernel
theorem dn_H_leafAt_6 : decode cn_H_leafAt 6 = .ok (.iload_n 1, 1) := by decide +kernel
theorem dn_H_leafAt_7 : decode cn_H_leafAt 7 = .ok (.aload_n 0, 1) := by decide +kernel
theorem dn_H_leafAt_8 : decode cn_H_leafAt 8 = .ok (.arraylength, 1) := by decide +kernel
theorem dn_H_leafAt_9 : decode cn_H_leafAt 9 = .ok (.bipush 6, 2) := by decide +kernel
theorem dn_H_leafAt_11 : decode cn_H_leafAt 11 = .ok (.isub, 1) := by decide +kernel
theorem dn_H_leafAt_12 : decode cn_H_leafAt 12 = .ok (.if_icmp .le 5, 3) := by decide +kernel
theorem dn_H_leafAt_15 : decode cn_H_leafAt 15 = .ok (.iload_n 2, 1) := by decide +kernel
theorem dn_H_leafAt_16 : decode cn_H_leafAt 16 = .ok (.ireturn, 1) := by decide +kernel
theorem dn_H_leafAt_17 : decode cn_H_leafAt 17 = .ok (.iconst 0, 1) := by decide +kernel
theorem dn_H_leafAt_18 : decode cn_H_leafAt 18 = .ok (.istore_n 3, 1) := by decide +kernel
theorem dn_H_leafAt_19 : decode cn_H_leafAt 19 = .ok (.iload_n 3, 1) := by decide +kernel
theorem dn_H_leafAt_20 : decode cn_H_leafAt 20 = .ok (.bipush 6, 2) := by decide +kernel
theorem dn_H_leafAt_22 : decode cn_H_leafAt 22 = .ok (.if_icmp .ge 19, 3) := by decide +kernel
theorem dn_H_leafAt_25 : decode cn_H_leafAt 25 = .ok (.iload_n 2, 1) := by decide +kernel
theorem dn_H_leafAt_26 : decode cn_H_leafAt 26 = .ok (.aload_n 0, 1) := by decide +kernel
theorem dn_H_leafAt_27 : decode cn_H_leafAt 27 = .ok (.iload_n 1, 1) := by decide +kernel
theorem dn_H_leafAt_28 : decode cn_H_leafAt 28 = .ok (.iload_n 3, 1) := by decide +kernel
theorem dn_H_leafAt_29 : decode cn_H_leafAt 29 = .ok (.iadd, 1) := by decide +kernel
theorem dn_H_leafAt_30 : decode cn_H_leafAt 30 = .ok (.iaload, 1) := by decide +kernel
theorem dn_H_leafAt_31 : decode cn_H_leafAt 31 = .ok (.invokestatic 14, 3) := by decide +kernel
theorem dn_H_leafAt_34 : decode cn_H_leafAt 34 = .ok (.istore_n 2, 1) := by decide +kernel
theorem dn_H_leafAt_35 : decode cn_H_leafAt 35 = .ok (.iinc 3 1, 3) := by decide +kernel
theorem dn_H_leafAt_38 : decode cn_H_leafAt 38 = .ok (.goto (-19), 3) := by decide +kernel
theorem dn_H_leafAt_41 : decode cn_H_leafAt 41 = .ok (.iload_n 2, 1) := by decide +kernel
theorem dn_H_leafAt_42 : decode cn_H_leafAt 42 = .ok (.ireturn, 1) := by decide +kernel

set_option maxRecDepth 100000 in
set_option maxHeartbeats 4000000 in
theorem c_J_rotateLeft (l : Launch) (dC : Nat → ClassId) (dI : Nat → Nat → Nat) (cI cZ : ClassId) (a : Int32) : gc_I l yn_J_rotateLeft (gw yn_J_rotateLeft cn_J_rotateLeft 2 (some .int)) (rm_ 0 0) (dC, dI) vwCl (gT cI cZ) [.int a, .int 11] [] (fun r (_ : Unit) => r = hf_rot a) (fun _ => []) := by
  refine gc_I_of (cc := cn_J_rotateLeft) (maxL := 2) (ty := .int) (by decide) rfl (Nat.le_of_ble_eq_true rfl) ?_
  intro pp ee ss mm ar be me cd A Q ls H0 H locs hx hb hml hown hts hK hP hD hS hA hl hret
  have hw : ∀ w ∈ gw_T, w.before ar ss = true := fun w h => hts w (List.mem_cons_of_mem _ h)
  have hl : lv_has ls 2 [(0, .int a), (1, .int 11)] := hl
  refine lv_iload_n hx hb dn_J_rotateLeft_0 rfl (lv_at hl 0 rfl) ?_
  refine lv_iload_n hx hb dn_J_rotateLeft_1 rfl (lv_at hl 1 rfl) ?_
  refine lv_ishl hx hb dn_J_rotateLeft_2 ?_
  refine lv_iload_n hx hb dn_J_rotateLeft_3 rfl (lv_at hl 0 rfl) ?_
  refine lv_iload_n hx hb dn_J_rotateLeft_4 rfl (lv_at hl 1 rfl) ?_
  refine lv_ineg hx hb dn_J_rotateLeft_5 ?_
  refine lv_iushr hx hb dn_J_rotateLeft_6 rfl ?_
  refine lv_ior hx hb dn_J_rotateLeft_7 ?_
  exact hret ((a <<< (11 &&& 31)) ||| (((a : Int32).toUInt32 >>> (((-11) : Int32).toUInt32 &&& Int32.toUInt32 31)).toInt32)) () _ _ _ _ (by unfold hf_rot; rw [show ((-11 : Int32).toUInt32 &&& Int32.toUInt32 31) = ((21 : Int32).toUInt32 &&& Int32.toUInt32 31) from by decide]) rfl hP hD hS dn_J_rotateLeft_8

set_option maxRecDepth 100000 in
set_option maxHeartbeats 4000000 in
theorem c_H_mix (l : Launch) (dC : Nat → ClassId) (dI : Nat → Nat → Nat) (cI cZ : ClassId) (a b : Int32) : gc_I l yn_H_mix (gw yn_H_mix cn_H_mix 3 (some .int)) (rm_ 1 21) (dC, dI) vwCl (gT cI cZ) [.int a, .int b] [] (fun r (_ : Unit) => r = (hf_mix a b)) (fun _ => []) := by
  refine gc_I_of (cc := cn_H_mix) (maxL := 3) (ty := .int) (by decide) rfl (Nat.le_of_ble_eq_true rfl) ?_
  intro pp ee ss mm ar be me cd A Q ls H0 H locs hx hb hml hown hts hK hP hD hS hA hl hret
  have hw : ∀ w ∈ gw_T, w.before ar ss = true := fun w h => hts w (List.mem_cons_of_mem _ h)
  have hl : lv_has ls 3 [(0, .int a), (1, .int b)] := hl
  refine lv_iload_n hx hb dn_H_mix_0 rfl (lv_at hl 0 rfl) ?_
  refine lv_bipush (v := 11) hx hb dn_H_mix_1 (by decide) ?_
  refine gc_s0 (v := (hf_rot a)) (As := [.int a, .int 11]) (rest := []) ⟨hx, hb, hml, hown, hw⟩ (c_J_rotateLeft l dC dI cI cZ a) (gw_cS 2 hw mw_180 mw_181 mw_8 mw_182 hd_J_rotateLeft ⟨Nat.le_of_ble_eq_true rfl, Nat.le_of_ble_eq_true rfl⟩) hK hP hD hS hA rfl hl.1 rfl (Nat.le_of_ble_eq_true rfl) dn_H_mix_3 ⟨Nat.zero_le _, Nat.zero_le _⟩ (fun H locs hP hD hS => ?_)
  refine lv_iload_n hx hb dn_H_mix_6 rfl (lv_at hl 1 rfl) ?_
  refine lv_ixor hx hb dn_H_mix_7 ?_
  refine lv_ldc (v := 48271001) hx hb hown (hw _ mw_183) dn_H_mix_8 ?_
  refine lv_imul hx hb dn_H_mix_10 ?_
  refine lv_sipush (v := 12345) hx hb dn_H_mix_11 (by decide) ?_
  refine lv_iadd hx hb dn_H_mix_14 ?_
  refine lv_istore_n (lv' := [(2, .int ((((hf_rot a) ^^^ b) * 48271001) + 12345)), (0, .int a), (1, .int b)]) hx hb dn_H_mix_15 rfl hl (by decide) rfl (fun ls hl => ?_)
  refine lv_iload_n hx hb dn_H_mix_16 rfl (lv_at hl 0 rfl) ?_
  refine lv_iload_n hx hb dn_H_mix_17 rfl (lv_at hl 0 rfl) ?_
  refine lv_bipush (v := 15) hx hb dn_H_mix_18 (by decide) ?_
  refine lv_iushr hx hb dn_H_mix_20 rfl ?_
  refine lv_ixor hx hb dn_H_mix_21 ?_
  exact hret (((((hf_rot a) ^^^ b) * 48271001) + 12345) ^^^ (((((((hf_rot a) ^^^ b) * 48271001) + 12345) : Int32).toUInt32 >>> ((15 : Int32).toUInt32 &&& Int32.toUInt32 31)).toInt32)) () _ _ _ _ rfl rfl hP hD hS dn_H_mix_22

set_option maxRecDepth 100000 in
set_option maxHeartbeats 4000000 in
theorem c_H_node (l : Launch) (dC : Nat → ClassId) (dI : Nat → Nat → Nat) (cI cZ : ClassId) (a b : Int32) : gc_I l yn_H_node (gw yn_H_node cn_H_node 2 (some .int)) (rm_ 2 43) (dC, dI) vwCl (gT cI cZ) [.int a, .int b] [] (fun r (_ : Unit) => r = (hf_node a b)) (fun _ => []) := by
  refine gc_I_of (cc := cn_H_node) (maxL := 2) (ty := .int) (by decide) rfl (Nat.le_of_ble_eq_true rfl) ?_
  intro pp ee ss mm ar be me cd A Q ls H0 H locs hx hb hml hown hts hK hP hD hS hA hl hret
  have hw : ∀ w ∈ gw_T, w.before ar ss = true := fun w h => hts w (List.mem_cons_of_mem _ h)
  have hl : lv_has ls 2 [(0, .int a), (1, .int b)] := hl
  refine lv_iconst (v := 2) hx hb dn_H_node_0 (by decide) ?_
  refine lv_iload_n hx hb dn_H_node_1 rfl (lv_at hl 0 rfl) ?_
  refine gc_s0 (v := (hf_mix 2 a)) (As := [.int 2, .int a]) (rest := []) ⟨hx, hb, hml, hown, hw⟩ (c_H_mix l dC dI cI cZ 2 a) (gw_cS 2 hw mw_177 mw_178 mw_7 mw_179 hd_H_mix ⟨Nat.le_of_ble_eq_true rfl, Nat.le_of_ble_eq_true rfl⟩) hK hP hD hS hA rfl hl.1 rfl (Nat.le_of_ble_eq_true rfl) dn_H_node_2 ⟨Nat.zero_le _, Nat.zero_le _⟩ (fun H locs hP hD hS => ?_)
  refine lv_iload_n hx hb dn_H_node_5 rfl (lv_at hl 1 rfl) ?_
  refine gc_s0 (v := (hf_mix (hf_mix 2 a) b)) (As := [.int (hf_mix 2 a), .int b]) (rest := []) ⟨hx, hb, hml, hown, hw⟩ (c_H_mix l dC dI cI cZ (hf_mix 2 a) b) (gw_cS 2 hw mw_177 mw_178 mw_7 mw_179 hd_H_mix ⟨Nat.le_of_ble_eq_true rfl, Nat.le_of_ble_eq_true rfl⟩) hK hP hD hS hA rfl hl.1 rfl (Nat.le_of_ble_eq_true rfl) dn_H_node_6 ⟨Nat.zero_le _, Nat.zero_le _⟩ (fun H locs hP hD hS => ?_)
  exact hret (hf_mix (hf_mix 2 a) b) () _ _ _ _ rfl rfl hP hD hS dn_H_node_9

set_option maxRecDepth 100000 in
set_option maxHeartbeats 4000000 in
theorem c_H_pad (l : Launch) (dC : Nat → ClassId) (dI : Nat → Nat → Nat) (cI cZ : ClassId) (a b c : Int32) : gc_I l yn_H_pad (gw yn_H_pad cn_H_pad 3 (some .int)) (rm_ 2 43) (dC, dI) vwCl (gT cI cZ) [.int a, .int b, .int c] [] (fun r (_ : Unit) => r = (hf_pad a b c)) (fun _ => []) := by
  refine gc_I_of (cc := cn_H_pad) (maxL := 3) (ty := .int) (by decide) rfl (Nat.le_of_ble_eq_true rfl) ?_
  intro pp ee ss mm ar be me cd A Q ls H0 H locs hx hb hml hown hts hK hP hD hS hA hl hret
  have hw : ∀ w ∈ gw_T, w.before ar ss = true := fun w h => hts w (List.mem_cons_of_mem _ h)
  have hl : lv_has ls 3 [(0, .int a), (1, .int b), (2, .int c)] := hl
  refine lv_iload_n hx hb dn_H_pad_0 rfl (lv_at hl 0 rfl) ?_
  refine lv_iload_n hx hb dn_H_pad_1 rfl (lv_at hl 1 rfl) ?_
  refine gc_s0 (v := (hf_mix a b)) (As := [.int a, .int b]) (rest := []) ⟨hx, hb, hml, hown, hw⟩ (c_H_mix l dC dI cI cZ a b) (gw_cS 2 hw mw_177 mw_178 mw_7 mw_179 hd_H_mix ⟨Nat.le_of_ble_eq_true rfl, Nat.le_of_ble_eq_true rfl⟩) hK hP hD hS hA rfl hl.1 rfl (Nat.le_of_ble_eq_true rfl) dn_H_pad_2 ⟨Nat.zero_le _, Nat.zero_le _⟩ (fun H locs hP hD hS => ?_)
  refine lv_iload_n hx hb dn_H_pad_5 rfl (lv_at hl 2 rfl) ?_
  refine gc_s0 (v := (hf_mix (hf_mix a b) c)) (As := [.int (hf_mix a b), .int c]) (rest := []) ⟨hx, hb, hml, hown, hw⟩ (c_H_mix l dC dI cI cZ (hf_mix a b) c) (gw_cS 2 hw mw_177 mw_178 mw_7 mw_179 hd_H_mix ⟨Nat.le_of_ble_eq_true rfl, Nat.le_of_ble_eq_true rfl⟩) hK hP hD hS hA rfl hl.1 rfl (Nat.le_of_ble_eq_true rfl) dn_H_pad_6 ⟨Nat.zero_le _, Nat.zero_le _⟩ (fun H locs hP hD hS => ?_)
  exact hret (hf_mix (hf_mix a b) c) () _ _ _ _ rfl rfl hP hD hS dn_H_pad_9

set_option maxRecDepth 100000 in
set_option maxHeartbeats 4000000 in
theorem c_H_leafAt (l : Launch) (dC : Nat → ClassId) (dI : Nat → Nat → Nat) (cI cZ : ClassId) (a : Nat) (f : Nat → Int32) (n k : Nat) (hk : k + 6 ≤ n) (hn : n < 2 ^ 31) : gc_I l yn_H_leafAt (gw yn_H_leafAt cn_H_leafAt 4 (some .int)) (rm_ 2 43) (dC, dI) vwCl (gT cI cZ) [.ref a, .int (nI k)] [(a, .inl (cI, n, .inl f))] (fun r (_ : Unit) => r = hf_leaf f k) (fun _ => [(a, .inl (cI, n, .inl f))]) := by
  refine gc_I_of (cc := cn_H_leafAt) (maxL := 4) (ty := .int) (by decide) rfl (Nat.le_of_ble_eq_true rfl) ?_
  intro pp ee ss mm ar be me cd A Q ls H0 H locs hx hb hml hown hts hK hP hD hS hA hl hret
  have hw : ∀ w ∈ gw_T, w.before ar ss = true := fun w h => hts w (List.mem_cons_of_mem _ h)
  have hl : lv_has ls 4 [(0, .ref a), (1, .int (nI k))] := hl
  refine lv_iconst (v := 1) hx hb dn_H_leafAt_0 (by decide) ?_
  refine lv_istore_n (lv' := [(2, .int 1), (0, .ref a), (1, .int (nI k))]) hx hb dn_H_leafAt_1 rfl hl (by decide) rfl (fun ls hl => ?_)
  refine lv_iload_n hx hb dn_H_leafAt_2 rfl (lv_at hl 2 rfl) ?_
  refine gr_zlt (tgt := 15) hx hb k rfl (by omega) dn_H_leafAt_3 (by decide) ?_
  refine lv_iload_n hx hb dn_H_leafAt_6 rfl (lv_at hl 2 rfl) ?_
  refine lv_aload_n hx hb dn_H_leafAt_7 rfl (lv_at hl 1 rfl) ?_
  refine va_alen (v := (nI n)) hx hb hK hP 0 0 rfl rfl rfl dn_H_leafAt_8 ?_
  refine lv_bipush (v := 6) hx hb dn_H_leafAt_9 (by decide) ?_
  refine gr_subN hx hb n 6 rfl rfl (by omega) dn_H_leafAt_11 ?_
  refine gr_cle (tgt := 17) hx hb k (n - 6) rfl rfl (by omega) (by omega) dn_H_leafAt_12 (by decide) (fun h12 => ?_) (fun h12 => absurd h12 (by omega))
  refine lv_iconst (v := 0) hx hb dn_H_leafAt_17 (by decide) ?_
  refine lv_istore_n (lv' := [(3, .int 0), (2, .int 1), (0, .ref a), (1, .int (nI k))]) hx hb dn_H_leafAt_18 rfl hl (by decide) rfl (fun ls hl => ?_)
  refine lv_iload_n hx hb dn_H_leafAt_19 rfl (lv_at hl 0 rfl) ?_
  refine lv_bipush (v := 6) hx hb dn_H_leafAt_20 (by decide) ?_
  refine lv_icmp_ge (tgt := 41) hx hb dn_H_leafAt_22 (by decide) (fun h => absurd h (by decide)) (fun _ => ?_)
  refine lv_iload_n hx hb dn_H_leafAt_25 rfl (lv_at hl 1 rfl) ?_
  refine lv_aload_n hx hb dn_H_leafAt_26 rfl (lv_at hl 2 rfl) ?_
  refine lv_iload_n hx hb dn_H_leafAt_27 rfl (lv_at hl 3 rfl) ?_
  refine lv_iload_n hx hb dn_H_leafAt_28 rfl (lv_at hl 0 rfl) ?_
  refine gr_addN hx hb k 0 rfl rfl dn_H_leafAt_29 ?_
  refine gr_iald hx hb hK hP 0 0 rfl rfl (k + 0) rfl (by omega) (by omega) dn_H_leafAt_30 ?_
  refine gc_s0 (v := (hf_mix 1 (f (k + 0)))) (As := [.int 1, .int (f (k + 0))]) (rest := []) ⟨hx, hb, hml, hown, hw⟩ (c_H_mix l dC dI cI cZ 1 (f (k + 0))) (gw_cS 2 hw mw_177 mw_178 mw_7 mw_179 hd_H_mix ⟨Nat.le_of_ble_eq_true rfl, Nat.le_of_ble_eq_true rfl⟩) hK hP hD hS hA rfl hl.1 rfl (Nat.le_of_ble_eq_true rfl) dn_H_leafAt_31 ⟨Nat.zero_le _, Nat.zero_le _⟩ (fun H locs hP hD hS => ?_)
  refine lv_istore_n (lv' := [(2, .int (hf_mix 1 (f (k + 0)))), (3, .int 0), (0, .ref a), (1, .int (nI k))]) hx hb dn_H_leafAt_34 rfl hl (by decide) rfl (fun ls hl => ?_)
  refine lv_iinc (lv' := [(3, .int 1), (2, .int (hf_mix 1 (f (k + 0)))), (0, .ref a), (1, .int (nI k))]) (v := 1) (k := 1) hx hb dn_H_leafAt_35 hl rfl (by decide) (by decide) rfl (fun ls hl => ?_)
  refine lv_goto (tgt := 19) hx hb dn_H_leafAt_38 (by decide) ?_
  refine lv_iload_n hx hb dn_H_leafAt_19 rfl (lv_at hl 0 rfl) ?_
  refine lv_bipush (v := 6) hx hb dn_H_leafAt_20 (by decide) ?_
  refine lv_icmp_ge (tgt := 41) hx hb dn_H_leafAt_22 (by decide) (fun h => absurd h (by decide)) (fun _ => ?_)
  refine lv_iload_n hx hb dn_H_leafAt_25 rfl (lv_at hl 1 rfl) ?_
  refine lv_aload_n hx hb dn_H_leafAt_26 rfl (lv_at hl 2 rfl) ?_
  refine lv_iload_n hx hb dn_H_leafAt_27 rfl (lv_at hl 3 rfl) ?_
  refine lv_iload_n hx hb dn_H_leafAt_28 rfl (lv_at hl 0 rfl) ?_
  refine gr_addN hx hb k 1 rfl rfl dn_H_leafAt_29 ?_
  refine gr_iald hx hb hK hP 0 0 rfl rfl (k + 1) rfl (by omega) (by omega) dn_H_leafAt_30 ?_
  refine gc_s0 (v := (hf_mix (hf_mix 1 (f (k + 0))) (f (k + 1)))) (As := [.int (hf_mix 1 (f (k + 0))), .int (f (k + 1))]) (rest := []) ⟨hx, hb, hml, hown, hw⟩ (c_H_mix l dC dI cI cZ (hf_mix 1 (f (k + 0))) (f (k + 1))) (gw_cS 2 hw mw_177 mw_178 mw_7 mw_179 hd_H_mix ⟨Nat.le_of_ble_eq_true rfl, Nat.le_of_ble_eq_true rfl⟩) hK hP hD hS hA rfl hl.1 rfl (Nat.le_of_ble_eq_true rfl) dn_H_leafAt_31 ⟨Nat.zero_le _, Nat.zero_le _⟩ (fun H locs hP hD hS => ?_)
  refine lv_istore_n (lv' := [(2, .int (hf_mix (hf_mix 1 (f (k + 0))) (f (k + 1)))), (3, .int 1), (0, .ref a), (1, .int (nI k))]) hx hb dn_H_leafAt_34 rfl hl (by decide) rfl (fun ls hl => ?_)
  refine lv_iinc (lv' := [(3, .int 2), (2, .int (hf_mix (hf_mix 1 (f (k + 0))) (f (k + 1)))), (0, .ref a), (1, .int (nI k))]) (v := 2) (k := 1) hx hb dn_H_leafAt_35 hl rfl (by decide) (by decide) rfl (fun ls hl => ?_)
  refine lv_goto (tgt := 19) hx hb dn_H_leafAt_38 (by decide) ?_
  refine lv_iload_n hx hb dn_H_leafAt_19 rfl (lv_at hl 0 rfl) ?_
  refine lv_bipush (v := 6) hx hb dn_H_leafAt_20 (by decide) ?_
  refine lv_icmp_ge (tgt := 41) hx hb dn_H_leafAt_22 (by decide) (fun h => absurd h (by decide)) (fun _ => ?_)
  refine lv_iload_n hx hb dn_H_leafAt_25 rfl (lv_at hl 1 rfl) ?_
  refine lv_aload_n hx hb dn_H_leafAt_26 rfl (lv_at hl 2 rfl) ?_
  refine lv_iload_n hx hb dn_H_leafAt_27 rfl (lv_at hl 3 rfl) ?_
  refine lv_iload_n hx hb dn_H_leafAt_28 rfl (lv_at hl 0 rfl) ?_
  refine gr_addN hx hb k 2 rfl rfl dn_H_leafAt_29 ?_
  refine gr_iald hx hb hK hP 0 0 rfl rfl (k + 2) rfl (by omega) (by omega) dn_H_leafAt_30 ?_
  refine gc_s0 (v := (hf_mix (hf_mix (hf_mix 1 (f (k + 0))) (f (k + 1))) (f (k + 2)))) (As := [.int (hf_mix (hf_mix 1 (f (k + 0))) (f (k + 1))), .int (f (k + 2))]) (rest := []) ⟨hx, hb, hml, hown, hw⟩ (c_H_mix l dC dI cI cZ (hf_mix (hf_mix 1 (f (k + 0))) (f (k + 1))) (f (k + 2))) (gw_cS 2 hw mw_177 mw_178 mw_7 mw_179 hd_H_mix ⟨Nat.le_of_ble_eq_true rfl, Nat.le_of_ble_eq_true rfl⟩) hK hP hD hS hA rfl hl.1 rfl (Nat.le_of_ble_eq_true rfl) dn_H_leafAt_31 ⟨Nat.zero_le _, Nat.zero_le _⟩ (fun H locs hP hD hS => ?_)
  refine lv_istore_n (lv' := [(2, .int (hf_mix (hf_mix (hf_mix 1 (f (k + 0))) (f (k + 1))) (f (k + 2)))), (3, .int 2), (0, .ref a), (1, .int (nI k))]) hx hb dn_H_leafAt_34 rfl hl (by decide) rfl (fun ls hl => ?_)
  refine lv_iinc (lv' := [(3, .int 3), (2, .int (hf_mix (hf_mix (hf_mix 1 (f (k + 0))) (f (k + 1))) (f (k + 2)))), (0, .ref a), (1, .int (nI k))]) (v := 3) (k := 1) hx hb dn_H_leafAt_35 hl rfl (by decide) (by decide) rfl (fun ls hl => ?_)
  refine lv_goto (tgt := 19) hx hb dn_H_leafAt_38 (by decide) ?_
  refine lv_iload_n hx hb dn_H_leafAt_19 rfl (lv_at hl 0 rfl) ?_
  refine lv_bipush (v := 6) hx hb dn_H_leafAt_20 (by decide) ?_
  refine lv_icmp_ge (tgt := 41) hx hb dn_H_leafAt_22 (by decide) (fun h => absurd h (by decide)) (fun _ => ?_)
  refine lv_iload_n hx hb dn_H_leafAt_25 rfl (lv_at hl 1 rfl) ?_
  refine lv_aload_n hx hb dn_H_leafAt_26 rfl (lv_at hl 2 rfl) ?_
  refine lv_iload_n hx hb dn_H_leafAt_27 rfl (lv_at hl 3 rfl) ?_
  refine lv_iload_n hx hb dn_H_leafAt_28 rfl (lv_at hl 0 rfl) ?_
  refine gr_addN hx hb k 3 rfl rfl dn_H_leafAt_29 ?_
  refine gr_iald hx hb hK hP 0 0 rfl rfl (k + 3) rfl (by omega) (by omega) dn_H_leafAt_30 ?_
  refine gc_s0 (v := (hf_mix (hf_mix (hf_mix (hf_mix 1 (f (k + 0))) (f (k + 1))) (f (k + 2))) (f (k + 3)))) (As := [.int (hf_mix (hf_mix (hf_mix 1 (f (k + 0))) (f (k + 1))) (f (k + 2))), .int (f (k + 3))]) (rest := []) ⟨hx, hb, hml, hown, hw⟩ (c_H_mix l dC dI cI cZ (hf_mix (hf_mix (hf_mix 1 (f (k + 0))) (f (k + 1))) (f (k + 2))) (f (k + 3))) (gw_cS 2 hw mw_177 mw_178 mw_7 mw_179 hd_H_mix ⟨Nat.le_of_ble_eq_true rfl, Nat.le_of_ble_eq_true rfl⟩) hK hP hD hS hA rfl hl.1 rfl (Nat.le_of_ble_eq_true rfl) dn_H_leafAt_31 ⟨Nat.zero_le _, Nat.zero_le _⟩ (fun H locs hP hD hS => ?_)
  refine lv_istore_n (lv' := [(2, .int (hf_mix (hf_mix (hf_mix (hf_mix 1 (f (k + 0))) (f (k + 1))) (f (k + 2))) (f (k + 3)))), (3, .int 3), (0, .ref a), (1, .int (nI k))]) hx hb dn_H_leafAt_34 rfl hl (by decide) rfl (fun ls hl => ?_)
  refine lv_iinc (lv' := [(3, .int 4), (2, .int (hf_mix (hf_mix (hf_mix (hf_mix 1 (f (k + 0))) (f (k + 1))) (f (k + 2))) (f (k + 3)))), (0, .ref a), (1, .int (nI k))]) (v := 4) (k := 1) hx hb dn_H_leafAt_35 hl rfl (by decide) (by decide) rfl (fun ls hl => ?_)
  refine lv_goto (tgt := 19) hx hb dn_H_leafAt_38 (by decide) ?_
  refine lv_iload_n hx hb dn_H_leafAt_19 rfl (lv_at hl 0 rfl) ?_
  refine lv_bipush (v := 6) hx hb dn_H_leafAt_20 (by decide) ?_
  refine lv_icmp_ge (tgt := 41) hx hb dn_H_leafAt_22 (by decide) (fun h => absurd h (by decide)) (fun _ => ?_)
  refine lv_iload_n hx hb dn_H_leafAt_25 rfl (lv_at hl 1 rfl) ?_
  refine lv_aload_n hx hb dn_H_leafAt_26 rfl (lv_at hl 2 rfl) ?_
  refine lv_iload_n hx hb dn_H_leafAt_27 rfl (lv_at hl 3 rfl) ?_
  refine lv_iload_n hx hb dn_H_leafAt_28 rfl (lv_at hl 0 rfl) ?_
  refine gr_addN hx hb k 4 rfl rfl dn_H_leafAt_29 ?_
  refine gr_iald hx hb hK hP 0 0 rfl rfl (k + 4) rfl (by omega) (by omega) dn_H_leafAt_30 ?_
  refine gc_s0 (v := (hf_mix (hf_mix (hf_mix (hf_mix (hf_mix 1 (f (k + 0))) (f (k + 1))) (f (k + 2))) (f (k + 3))) (f (k + 4)))) (As := [.int (hf_mix (hf_mix (hf_mix (hf_mix 1 (f (k + 0))) (f (k + 1))) (f (k + 2))) (f (k + 3))), .int (f (k + 4))]) (rest := []) ⟨hx, hb, hml, hown, hw⟩ (c_H_mix l dC dI cI cZ (hf_mix (hf_mix (hf_mix (hf_mix 1 (f (k + 0))) (f (k + 1))) (f (k + 2))) (f (k + 3))) (f (k + 4))) (gw_cS 2 hw mw_177 mw_178 mw_7 mw_179 hd_H_mix ⟨Nat.le_of_ble_eq_true rfl, Nat.le_of_ble_eq_true rfl⟩) hK hP hD hS hA rfl hl.1 rfl (Nat.le_of_ble_eq_true rfl) dn_H_leafAt_31 ⟨Nat.zero_le _, Nat.zero_le _⟩ (fun H locs hP hD hS => ?_)
  refine lv_istore_n (lv' := [(2, .int (hf_mix (hf_mix (hf_mix (hf_mix (hf_mix 1 (f (k + 0))) (f (k + 1))) (f (k + 2))) (f (k + 3))) (f (k + 4)))), (3, .int 4), (0, .ref a), (1, .int (nI k))]) hx hb dn_H_leafAt_34 rfl hl (by decide) rfl (fun ls hl => ?_)
  refine lv_iinc (lv' := [(3, .int 5), (2, .int (hf_mix (hf_mix (hf_mix (hf_mix (hf_mix 1 (f (k + 0))) (f (k + 1))) (f (k + 2))) (f (k + 3))) (f (k + 4)))), (0, .ref a), (1, .int (nI k))]) (v := 5) (k := 1) hx hb dn_H_leafAt_35 hl rfl (by decide) (by decide) rfl (fun ls hl => ?_)
  refine lv_goto (tgt := 19) hx hb dn_H_leafAt_38 (by decide) ?_
  refine lv_iload_n hx hb dn_H_leafAt_19 rfl (lv_at hl 0 rfl) ?_
  refine lv_bipush (v := 6) hx hb dn_H_leafAt_20 (by decide) ?_
  refine lv_icmp_ge (tgt := 41) hx hb dn_H_leafAt_22 (by decide) (fun h => absurd h (by decide)) (fun _ => ?_)
  refine lv_iload_n hx hb dn_H_leafAt_25 rfl (lv_at hl 1 rfl) ?_
  refine lv_aload_n hx hb dn_H_leafAt_26 rfl (lv_at hl 2 rfl) ?_
  refine lv_iload_n hx hb dn_H_leafAt_27 rfl (lv_at hl 3 rfl) ?_
  refine lv_iload_n hx hb dn_H_leafAt_28 rfl (lv_at hl 0 rfl) ?_
  refine gr_addN hx hb k 5 rfl rfl dn_H_leafAt_29 ?_
  refine gr_iald hx hb hK hP 0 0 rfl rfl (k + 5) rfl (by omega) (by omega) dn_H_leafAt_30 ?_
  refine gc_s0 (v := (hf_mix (hf_mix (hf_mix (hf_mix (hf_mix (hf_mix 1 (f (k + 0))) (f (k + 1))) (f (k + 2))) (f (k + 3))) (f (k + 4))) (f (k + 5)))) (As := [.int (hf_mix (hf_mix (hf_mix (hf_mix (hf_mix 1 (f (k + 0))) (f (k + 1))) (f (k + 2))) (f (k + 3))) (f (k + 4))), .int (f (k + 5))]) (rest := []) ⟨hx, hb, hml, hown, hw⟩ (c_H_mix l dC dI cI cZ (hf_mix (hf_mix (hf_mix (hf_mix (hf_mix 1 (f (k + 0))) (f (k + 1))) (f (k + 2))) (f (k + 3))) (f (k + 4))) (f (k + 5))) (gw_cS 2 hw mw_177 mw_178 mw_7 mw_179 hd_H_mix ⟨Nat.le_of_ble_eq_true rfl, Nat.le_of_ble_eq_true rfl⟩) hK hP hD hS hA rfl hl.1 rfl (Nat.le_of_ble_eq_true rfl) dn_H_leafAt_31 ⟨Nat.zero_le _, Nat.zero_le _⟩ (fun H locs hP hD hS => ?_)
  refine lv_istore_n (lv' := [(2, .int (hf_mix (hf_mix (hf_mix (hf_mix (hf_mix (hf_mix 1 (f (k + 0))) (f (k + 1))) (f (k + 2))) (f (k + 3))) (f (k + 4))) (f (k + 5)))), (3, .int 5), (0, .ref a), (1, .int (nI k))]) hx hb dn_H_leafAt_34 rfl hl (by decide) rfl (fun ls hl => ?_)
  refine lv_iinc (lv' := [(3, .int 6), (2, .int (hf_mix (hf_mix (hf_mix (hf_mix (hf_mix (hf_mix 1 (f (k + 0))) (f (k + 1))) (f (k + 2))) (f (k + 3))) (f (k + 4))) (f (k + 5)))), (0, .ref a), (1, .int (nI k))]) (v := 6) (k := 1) hx hb dn_H_leafAt_35 hl rfl (by decide) (by decide) rfl (fun ls hl => ?_)
  refine lv_goto (tgt := 19) hx hb dn_H_leafAt_38 (by decide) ?_
  refine lv_iload_n hx hb dn_H_leafAt_19 rfl (lv_at hl 0 rfl) ?_
  refine lv_bipush (v := 6) hx hb dn_H_leafAt_20 (by decide) ?_
  refine lv_icmp_ge (tgt := 41) hx hb dn_H_leafAt_22 (by decide) (fun _ => ?_) (fun h => absurd h (by decide))
  refine lv_iload_n hx hb dn_H_leafAt_41 rfl (lv_at hl 1 rfl) ?_
  exact hret (hf_mix (hf_mix (hf_mix (hf_mix (hf_mix (hf_mix 1 (f (k + 0))) (f (k + 1))) (f (k + 2))) (f (k + 3))) (f (k + 4))) (f (k + 5))) () _ _ _ _ rfl rfl hP hD hS dn_H_leafAt_42
end
section
theorem gp_in {x : Int32} (n : Nat) (hn : n < 2 ^ 31) (h0 : ¬ x < 0) (h1 : ¬ nI n ≤ x) : ∃ k, k < n ∧ x = nI k := by
  rcases pk_ix x hn with h | h | h
  · exact absurd h h0
  · exact absurd h h1
  · exact h

theorem dn_G_hasPlace_0 : decode cn_G_hasPlace 0 = .ok (.iconst 0, 1) := by decide +kernel
theorem dn_G_hasPlace_1 : decode cn_G_hasPlace 1 = .ok (.iload_n 0, 1) := by decide +kernel
theorem dn_G_hasPlace_2 : decode cn_G_hasPlace 2 = .ok (.if_icmp .gt 14, 3) := by decide +kernel
theorem dn_G_hasPlace_5 : decode cn_G_hasPlace 5 = .ok (.iload_n 0, 1) := by decide +kernel
theorem dn_G_hasPlace_6 : decode cn_G_hasPlace 6 = .ok (.sipush 292, 3) := by decide +kernel
theorem dn_G_hasPlace_9 : decode cn_G_hasPlace 9 = .ok (.if_icmp .ge 7, 3) := by decide +kernel
theorem dn_G_hasPlace_12 : decode cn_G_hasPlace 12 = .ok (.iconst 1, 1) := by decide +kernel
theorem dn_G_hasPlace_13 : decode cn_G_hasPlace 13 = .ok (.goto 4, 3) := by decide +kernel
theorem dn_G_hasPlace_16 : decode cn_G_hasPlace 16 = .ok (.iconst 0, 1) := by decide +kernel
theorem dn_G_hasPlace_17 : decode cn_G_hasPlace 17 = .ok (.ireturn, 1) := by decide +kernel
theorem dn_G_recordPlace_0 : decode cn_G_recordPlace 0 = .ok (.bipush 7, 2) := by decide +kernel
theorem dn_G_recordPlace_2 : decode cn_G_recordPlace 2 = .ok (.iload_n 0, 1) := by decide +kernel
theorem dn_G_recordPlace_3 : decode cn_G_recordPlace 3 = .ok (.imul, 1) := by decide +kernel
theorem dn_G_recordPlace_4 : decode cn_G_recordPlace 4 = .ok (.ireturn, 1) := by decide +kernel
theorem dn_G_keyPlace_0 : decode cn_G_keyPlace 0 = .ok (.sipush 279, 3) := by decide +kernel
theorem dn_G_keyPlace_3 : decode cn_G_keyPlace 3 = .ok (.iload_n 0, 1) := by decide +kernel
theorem dn_G_keyPlace_4 : decode cn_G_keyPlace 4 = .ok (.iadd, 1) := by decide +kernel
theorem dn_G_keyPlace_5 : decode cn_G_keyPlace 5 = .ok (.ireturn, 1) := by decide +kernel
theorem dn_G_read_0 : decode cn_G_read 0 = .ok (.iload_n 1, 1) := by decide +kernel
theorem dn_G_read_1 : decode cn_G_read 1 = .ok (.invokestatic 18, 3) := by decide +kernel
theorem dn_G_read_4 : decode cn_G_read 4 = .ok (.ifCond .eq 12, 3) := by decide +kernel
theorem dn_G_read_7 : decode cn_G_read 7 = .ok (.aload_n 0, 1) := by decide +kernel
theorem dn_G_read_8 : decode cn_G_read 8 = .ok (.getfield 11, 3) := by decide +kernel
theorem dn_G_read_11 : decode cn_G_read 11 = .ok (.iload_n 1, 1) := by decide +kernel
theorem dn_G_read_12 : decode cn_G_read 12 = .ok (.iaload, 1) := by decide +kernel
theorem dn_G_read_13 : decode cn_G_read 13 = .ok (.goto 4, 3) := by decide +kernel
theorem dn_G_read_16 : decode cn_G_read 16 = .ok (.iconst 0, 1) := by decide +kernel
theorem dn_G_read_17 : decode cn_G_read 17 = .ok (.ireturn, 1) := by decide +kernel
theorem dn_G_store_0 : decode cn_G_store 0 = .ok (.iload_n 1, 1) := by decide +kernel
theorem dn_G_store_1 : decode cn_G_store 1 = .ok (.invokestatic 18, 3) := by decide +kernel
theorem dn_G_store_4 : decode cn_G_store 4 = .ok (.ifCond .eq 10, 3) := by decide +kernel
theorem dn_G_store_7 : decode cn_G_store 7 = .ok (.aload_n 0, 1) := by decide +kernel
theorem dn_G_store_8 : decode cn_G_store 8 = .ok (.getfield 11, 3) := by decide +kernel
theorem dn_G_store_11 : decode cn_G_store 11 = .ok (.iload_n 1, 1) := by decide +kernel
theorem dn_G_store_12 : decode cn_G_store 12 = .ok (.iload_n 2, 1) := by decide +kernel
theorem dn_G_store_13 : decode cn_G_store 13 = .ok (.iastore, 1) := by decide +kernel
theorem dn_G_store_14 : decode cn_G_store 14 = .ok (.return_, 1) := by decide +kernel
theorem dn_G_field_0 : decode cn_G_field 0 = .ok (.aload_n 0, 1) := by decide +kernel
theorem dn_G_field_1 : decode cn_G_field 1 = .ok (.iload_n 1, 1) := by decide +kernel
theorem dn_G_field_2 : decode cn_G_field 2 = .ok (.invokestatic 22, 3) := by decide +kernel
theorem dn_G_field_5 : decode cn_G_field 5 = .ok (.iload_n 2, 1) := by decide +kernel
theorem dn_G_field_6 : decode cn_G_field 6 = .ok (.iadd, 1) := by decide +kernel
theorem dn_G_field_7 : decode cn_G_field 7 = .ok (.invokevirtual 26, 3) := by decide +kernel
theorem dn_G_field_10 : decode cn_G_field 10 = .ok (.ireturn, 1) := by decide +kernel
theorem dn_G_leaf_0 : decode cn_G_leaf 0 = .ok (.aload_n 0, 1) := by decide +kernel
theorem dn_G_leaf_1 : decode cn_G_leaf 1 = .ok (.getfield 11, 3) := by decide +kernel
theorem dn_G_leaf_4 : decode cn_G_leaf 4 = .ok (.iload_n 1, 1) := by decide +kernel
theorem dn_G_leaf_5 : decode cn_G_leaf 5 = .ok (.invokestatic 22, 3) := by decide +kernel
theorem dn_G_leaf_8 : decode cn_G_leaf 8 = .ok (.invokestatic 52, 3) := by decide +kernel
theorem dn_G_leaf_11 : decode cn_G_leaf 11 = .ok (.ireturn, 1) := by decide +kernel
theorem dn_G_checkIsRight_0 : decode cn_G_checkIsRight 0 = .ok (.aload_n 0, 1) := by decide +kernel
theorem dn_G_checkIsRight_1 : decode cn_G_checkIsRight 1 = .ok (.iload_n 1, 1) := by decide +kernel
theorem dn_G_checkIsRight_2 : decode cn_G_checkIsRight 2 = .ok (.bipush 6, 2) := by decide +kernel
theorem dn_G_checkIsRight_4 : decode cn_G_checkIsRight 4 = .ok (.invokevirtual 29, 3) := by decide +kernel
theorem dn_G_checkIsRight_7 : decode cn_G_checkIsRight 7 = .ok (.aload_n 0, 1) := by decide +kernel
theorem dn_G_checkIsRight_8 : decode cn_G_checkIsRight 8 = .ok (.iload_n 1, 1) := by decide +kernel
theorem dn_G_checkIsRight_9 : decode cn_G_checkIsRight 9 = .ok (.invokevirtual 33, 3) := by decide +kernel
theorem dn_G_checkIsRight_12 : decode cn_G_checkIsRight 12 = .ok (.iconst 1, 1) := by decide +kernel
theorem dn_G_checkIsRight_13 : decode cn_G_checkIsRight 13 = .ok (.ior, 1) := by decide +kernel
theorem dn_G_checkIsRight_14 : decode cn_G_checkIsRight 14 = .ok (.if_icmp .ne 7, 3) := by decide +kernel
theorem dn_G_checkIsRight_17 : decode cn_G_checkIsRight 17 = .ok (.iconst 1, 1) := by decide +kernel
theorem dn_G_checkIsRight_18 : decode cn_G_checkIsRight 18 = .ok (.goto 4, 3) := by decide +kernel
theorem dn_G_checkIsRight_21 : decode cn_G_checkIsRight 21 = .ok (.iconst 0, 1) := by decide +kernel
theorem dn_G_checkIsRight_22 : decode cn_G_checkIsRight 22 = .ok (.ireturn, 1) := by decide +kernel
theorem dn_G_wipeRecordsFrom_0 : decode cn_G_wipeRecordsFrom 0 = .ok (.bipush 40, 2) := by decide +kernel
theorem dn_G_wipeRecordsFrom_2 : decode cn_G_wipeRecordsFrom 2 = .ok (.invokestatic 22, 3) := by decide +kernel
theorem dn_G_wipeRecordsFrom_5 : decode cn_G_wipeRecordsFrom 5 = .ok (.istore_n 2, 1) := by decide +kernel
theorem dn_G_wipeRecordsFrom_6 : decode cn_G_wipeRecordsFrom 6 = .ok (.iload_n 1, 1) := by decide +kernel
theorem dn_G_wipeRecordsFrom_7 : decode cn_G_wipeRecordsFrom 7 = .ok (.invokestatic 22, 3) := by decide +kernel
theorem dn_G_wipeRecordsFrom_10 : decode cn_G_wipeRecordsFrom 10 = .ok (.istore_n 3, 1) := by decide +kernel
theorem dn_G_wipeRecordsFrom_11 : decode cn_G_wipeRecordsFrom 11 = .ok (.iload_n 3, 1) := by decide +kernel
theorem dn_G_wipeRecordsFrom_12 : decode cn_G_wipeRecordsFrom 12 = .ok (.iload_n 2, 1) := by decide +kernel
theorem dn_G_wipeRecordsFrom_13 : decode cn_G_wipeRecordsFrom 13 = .ok (.if_icmp .ge 15, 3) := by decide +kernel
theorem dn_G_wipeRecordsFrom_16 : decode cn_G_wipeRecordsFrom 16 = .ok (.aload_n 0, 1) := by decide +kernel
theorem dn_G_wipeRecordsFrom_17 : decode cn_G_wipeRecordsFrom 17 = .ok (.iload_n 3, 1) := by decide +kernel
theorem dn_G_wipeRecordsFrom_18 : decode cn_G_wipeRecordsFrom 18 = .ok (.iconst 0, 1) := by decide +kernel
theorem dn_G_wipeRecordsFrom_19 : decode cn_G_wipeRecordsFrom 19 = .ok (.invokevirtual 36, 3) := by decide +kernel
theorem dn_G_wipeRecordsFrom_22 : decode cn_G_wipeRecordsFrom 22 = .ok (.iinc 3 1, 3) := by decide +kernel
theorem dn_G_wipeRecordsFrom_25 : decode cn_G_wipeRecordsFrom 25 = .ok (.goto (-14), 3) := by decide +kernel
theorem dn_G_wipeRecordsFrom_28 : decode cn_G_wipeRecordsFrom 28 = .ok (.return_, 1) := by decide +kernel
theorem dn_G_joinNeighbours_0 : decode cn_G_joinNeighbours 0 = .ok (.iload_n 1, 1) := by decide +kernel
theorem dn_G_joinNeighbours_1 : decode cn_G_joinNeighbours 1 = .ok (.iconst 2, 1) := by decide +kernel
theorem dn_G_joinNeighbours_2 : decode cn_G_joinNeighbours 2 = .ok (.idiv, 1) := by decide +kernel
theorem dn_G_joinNeighbours_3 : decode cn_G_joinNeighbours 3 = .ok (.istore_n 2, 1) := by decide +kernel
theorem dn_G_joinNeighbours_4 : decode cn_G_joinNeighbours 4 = .ok (.iconst 0, 1) := by decide +kernel
theorem dn_G_joinNeighbours_5 : decode cn_G_joinNeighbours 5 = .ok (.istore_n 3, 1) := by decide +kernel
theorem dn_G_joinNeighbours_6 : decode cn_G_joinNeighbours 6 = .ok (.iload_n 3, 1) := by decide +kernel
theorem dn_G_joinNeighbours_7 : decode cn_G_joinNeighbours 7 = .ok (.iload_n 2, 1) := by decide +kernel
theorem dn_G_joinNeighbours_8 : decode cn_G_joinNeighbours 8 = .ok (.if_icmp .ge 36, 3) := by decide +kernel
theorem dn_G_joinNeighbours_11 : decode cn_G_joinNeighbours 11 = .ok (.aload_n 0, 1) := by decide +kernel
theorem dn_G_joinNeighbours_12 : decode cn_G_joinNeighbours 12 = .ok (.getfield 15, 3) := by decide +kernel
theorem dn_G_joinNeighbours_15 : decode cn_G_joinNeighbours 15 = .ok (.iload_n 3, 1) := by decide +kernel
theorem dn_G_joinNeighbours_16 : decode cn_G_joinNeighbours 16 = .ok (.aload_n 0, 1) := by decide +kernel
theorem dn_G_joinNeighbours_17 : decode cn_G_joinNeighbours 17 = .ok (.getfield 15, 3) := by decide +kernel
theorem dn_G_joinNeighbours_20 : decode cn_G_joinNeighbours 20 = .ok (.iconst 2, 1) := by decide +kernel
theorem dn_G_joinNeighbours_21 : decode cn_G_joinNeighbours 21 = .ok (.iload_n 3, 1) := by decide +kernel
theorem dn_G_joinNeighbours_22 : decode cn_G_joinNeighbours 22 = .ok (.imul, 1) := by decide +kernel
theorem dn_G_joinNeighbours_23 : decode cn_G_joinNeighbours 23 = .ok (.iaload, 1) := by decide +kernel
theorem dn_G_joinNeighbours_24 : decode cn_G_joinNeighbours 24 = .ok (.aload_n 0, 1) := by decide +kernel
theorem dn_G_joinNeighbours_25 : decode cn_G_joinNeighbours 25 = .ok (.getfield 15, 3) := by decide +kernel
theorem dn_G_joinNeighbours_28 : decode cn_G_joinNeighbours 28 = .ok (.iconst 2, 1) := by decide +kernel
theorem dn_G_joinNeighbours_29 : decode cn_G_joinNeighbours 29 = .ok (.iload_n 3, 1) := by decide +kernel
theorem dn_G_joinNeighbours_30 : decode cn_G_joinNeighbours 30 = .ok (.imul, 1) := by decide +kernel
theorem dn_G_joinNeighbours_31 : decode cn_G_joinNeighbours 31 = .ok (.iconst 1, 1) := by decide +kernel
theorem dn_G_joinNeighbours_32 : decode cn_G_joinNeighbours 32 = .ok (.iadd, 1) := by decide +kernel
theorem dn_G_joinNeighbours_33 : decode cn_G_joinNeighbours 33 = .ok (.iaload, 1) := by decide +kernel
theorem dn_G_joinNeighbours_34 : decode cn_G_joinNeighbours 34 = .ok (.invokestatic 47, 3) := by decide +kernel
theorem dn_G_joinNeighbours_37 : decode cn_G_joinNeighbours 37 = .ok (.iastore, 1) := by decide +kernel
theorem dn_G_joinNeighbours_38 : decode cn_G_joinNeighbours 38 = .ok (.iinc 3 1, 3) := by decide +kernel
theorem dn_G_joinNeighbours_41 : decode cn_G_joinNeighbours 41 = .ok (.goto (-35), 3) := by decide +kernel
theorem dn_G_joinNeighbours_44 : decode cn_G_joinNeighbours 44 = .ok (.iload_n 1, 1) := by decide +kernel
theorem dn_G_joinNeighbours_45 : decode cn_G_joinNeighbours 45 = .ok (.iconst 2, 1) := by decide +kernel
theorem dn_G_joinNeighbours_46 : decode cn_G_joinNeighbours 46 = .ok (.irem, 1) := by decide +kernel
theorem dn_G_joinNeighbours_47 : decode cn_G_joinNeighbours 47 = .ok (.iconst 1, 1) := by decide +kernel
theorem dn_G_joinNeighbours_48 : decode cn_G_joinNeighbours 48 = .ok (.if_icmp .ne 17, 3) := by decide +kernel
theorem dn_G_joinNeighbours_51 : decode cn_G_joinNeighbours 51 = .ok (.aload_n 0, 1) := by decide +kernel
theorem dn_G_joinNeighbours_52 : decode cn_G_joinNeighbours 52 = .ok (.getfield 15, 3) := by decide +kernel
theorem dn_G_joinNeighbours_55 : decode cn_G_joinNeighbours 55 = .ok (.iload_n 2, 1) := by decide +kernel
theorem dn_G_joinNeighbours_56 : decode cn_G_joinNeighbours 56 = .ok (.aload_n 0, 1) := by decide +kernel
theorem dn_G_joinNeighbours_57 : decode cn_G_joinNeighbours 57 = .ok (.getfield 15, 3) := by decide +kernel
theorem dn_G_joinNeighbours_60 : decode cn_G_joinNeighbours 60 = .ok (.iload_n 1, 1) := by decide +kernel
theorem dn_G_joinNeighbours_61 : decode cn_G_joinNeighbours 61 = .ok (.iconst 1, 1) := by decide +kernel
theorem dn_G_joinNeighbours_62 : decode cn_G_joinNeighbours 62 = .ok (.isub, 1) := by decide +kernel
theorem dn_G_joinNeighbours_63 : decode cn_G_joinNeighbours 63 = .ok (.iaload, 1) := by decide +kernel
theorem dn_G_joinNeighbours_64 : decode cn_G_joinNeighbours 64 = .ok (.iastore, 1) := by decide +kernel
theorem dn_G_joinNeighbours_65 : decode cn_G_joinNeighbours 65 = .ok (.return_, 1) := by decide +kernel
theorem dn_G_tree_0 : decode cn_G_tree 0 = .ok (.iload_n 1, 1) := by decide +kernel
theorem dn_G_tree_1 : decode cn_G_tree 1 = .ok (.ifCond .lt 16, 3) := by decide +kernel
theorem dn_G_tree_4 : decode cn_G_tree 4 = .ok (.iload_n 2, 1) := by decide +kernel
theorem dn_G_tree_5 : decode cn_G_tree 5 = .ok (.iconst 1, 1) := by decide +kernel
theorem dn_G_tree_6 : decode cn_G_tree 6 = .ok (.if_icmp .lt 11, 3) := by decide +kernel
theorem dn_G_tree_9 : decode cn_G_tree 9 = .ok (.iload_n 2, 1) := by decide +kernel
theorem dn_G_tree_10 : decode cn_G_tree 10 = .ok (.bipush 40, 2) := by decide +kernel
theorem dn_G_tree_12 : decode cn_G_tree 12 = .ok (.iload_n 1, 1) := by decide +kernel
theorem dn_G_tree_13 : decode cn_G_tree 13 = .ok (.isub, 1) := by decide +kernel
theorem dn_G_tree_14 : decode cn_G_tree 14 = .ok (.if_icmp .le 5, 3) := by decide +kernel
theorem dn_G_tree_17 : decode cn_G_tree 17 = .ok (.iconst 0, 1) := by decide +kernel
theorem dn_G_tree_18 : decode cn_G_tree 18 = .ok (.ireturn, 1) := by decide +kernel
theorem dn_G_tree_19 : decode cn_G_tree 19 = .ok (.iconst 0, 1) := by decide +kernel
theorem dn_G_tree_20 : decode cn_G_tree 20 = .ok (.istore_n 3, 1) := by decide +kernel
theorem dn_G_tree_21 : decode cn_G_tree 21 = .ok (.iload_n 3, 1) := by decide +kernel
theorem dn_G_tree_22 : decode cn_G_tree 22 = .ok (.iload_n 2, 1) := by decide +kernel
theorem dn_G_tree_23 : decode cn_G_tree 23 = .ok (.if_icmp .ge 22, 3) := by decide +kernel
theorem dn_G_tree_26 : decode cn_G_tree 26 = .ok (.aload_n 0, 1) := by decide +kernel
theorem dn_G_tree_27 : decode cn_G_tree 27 = .ok (.getfield 15, 3) := by decide +kernel
theorem dn_G_tree_30 : decode cn_G_tree 30 = .ok (.iload_n 3, 1) := by decide +kernel
theorem dn_G_tree_31 : decode cn_G_tree 31 = .ok (.aload_n 0, 1) := by decide +kernel
theorem dn_G_tree_32 : decode cn_G_tree 32 = .ok (.iload_n 1, 1) := by decide +kernel
theorem dn_G_tree_33 : decode cn_G_tree 33 = .ok (.iload_n 3, 1) := by decide +kernel
theorem dn_G_tree_34 : decode cn_G_tree 34 = .ok (.iadd, 1) := by decide +kernel
theorem dn_G_tree_35 : decode cn_G_tree 35 = .ok (.invokevirtual 33, 3) := by decide +kernel
theorem dn_G_tree_38 : decode cn_G_tree 38 = .ok (.iastore, 1) := by decide +kernel
theorem dn_G_tree_39 : decode cn_G_tree 39 = .ok (.iinc 3 1, 3) := by decide +kernel
theorem dn_G_tree_42 : decode cn_G_tree 42 = .ok (.goto (-21), 3) := by decide +kernel
theorem dn_G_tree_45 : decode cn_G_tree 45 = .ok (.iload_n 2, 1) := by decide +kernel
theorem dn_G_tree_46 : decode cn_G_tree 46 = .ok (.istore_n 3, 1) := by decide +kernel
theorem dn_G_tree_47 : decode cn_G_tree 47 = .ok (.iload_n 3, 1) := by decide +kernel
theorem dn_G_tree_48 : decode cn_G_tree 48 = .ok (.iconst 1, 1) := by decide +kernel
theorem dn_G_tree_49 : decode cn_G_tree 49 = .ok (.if_icmp .le 17, 3) := by decide +kernel
theorem dn_G_tree_52 : decode cn_G_tree 52 = .ok (.aload_n 0, 1) := by decide +kernel
theorem dn_G_tree_53 : decode cn_G_tree 53 = .ok (.iload_n 3, 1) := by decide +kernel
theorem dn_G_tree_54 : decode cn_G_tree 54 = .ok (.invokevirtual 43, 3) := by decide +kernel
theorem dn_G_tree_57 : decode cn_G_tree 57 = .ok (.iload_n 3, 1) := by decide +kernel
theorem dn_G_tree_58 : decode cn_G_tree 58 = .ok (.iconst 1, 1) := by decide +kernel
theorem dn_G_tree_59 : decode cn_G_tree 59 = .ok (.iadd, 1) := by decide +kernel
theorem dn_G_tree_60 : decode cn_G_tree 60 = .ok (.iconst 2, 1) := by decide +kernel
theorem dn_G_tree_61 : decode cn_G_tree 61 = .ok (.idiv, 1) := by decide +kernel
theorem dn_G_tree_62 : decode cn_G_tree 62 = .ok (.istore_n 3, 1) := by decide +kernel
theorem dn_G_tree_63 : decode cn_G_tree 63 = .ok (.goto (-16), 3) := by decide +kernel
theorem dn_G_tree_66 : decode cn_G_tree 66 = .ok (.aload_n 0, 1) := by decide +kernel
theorem dn_G_tree_67 : decode cn_G_tree 67 = .ok (.getfield 15, 3) := by decide +kernel
theorem dn_G_tree_70 : decode cn_G_tree 70 = .ok (.iconst 0, 1) := by decide +kernel
theorem dn_G_tree_71 : decode cn_G_tree 71 = .ok (.iaload, 1) := by decide +kernel
theorem dn_G_tree_72 : decode cn_G_tree 72 = .ok (.ireturn, 1) := by decide +kernel
theorem dn_G_rootOf_0 : decode cn_G_rootOf 0 = .ok (.iload_n 1, 1) := by decide +kernel
theorem dn_G_rootOf_1 : decode cn_G_rootOf 1 = .ok (.ifCond .ne 7, 3) := by decide +kernel
theorem dn_G_rootOf_4 : decode cn_G_rootOf 4 = .ok (.iconst 0, 1) := by decide +kernel
theorem dn_G_rootOf_5 : decode cn_G_rootOf 5 = .ok (.goto 9, 3) := by decide +kernel
theorem dn_G_rootOf_8 : decode cn_G_rootOf 8 = .ok (.aload_n 0, 1) := by decide +kernel
theorem dn_G_rootOf_9 : decode cn_G_rootOf 9 = .ok (.iconst 0, 1) := by decide +kernel
theorem dn_G_rootOf_10 : decode cn_G_rootOf 10 = .ok (.iload_n 1, 1) := by decide +kernel
theorem dn_G_rootOf_11 : decode cn_G_rootOf 11 = .ok (.invokevirtual 40, 3) := by decide +kernel
theorem dn_G_rootOf_14 : decode cn_G_rootOf 14 = .ok (.ireturn, 1) := by decide +kernel

set_option maxRecDepth 100000 in
set_option maxHeartbeats 4000000 in
theorem c_G_hasPlaceN (l : Launch) (dC : Nat → ClassId) (dI : Nat → Nat → Nat) (cI cZ : ClassId) (k : Nat) (hk : k < 292) : gc_I l yn_G_hasPlace (gw yn_G_hasPlace cn_G_hasPlace 1 (some .boolean)) (rm_ 0 0) (dC, dI) vwCl (gT cI cZ) [.int (nI k)] [] (fun r (_ : Unit) => r = 1) (fun _ => []) := by
  refine gc_I_of (cc := cn_G_hasPlace) (maxL := 1) (ty := .boolean) (by decide) rfl (Nat.le_of_ble_eq_true rfl) ?_
  intro pp ee ss mm ar be me cd A Q ls H0 H locs hx hb hml hown hts hK hP hD hS hA hl hret
  have hw : ∀ w ∈ gw_T, w.before ar ss = true := fun w h => hts w (List.mem_cons_of_mem _ h)
  have hl : lv_has ls 1 [(0, .int (nI k))] := hl
  refine lv_iconst (v := 0) hx hb dn_G_hasPlace_0 (by decide) ?_
  refine lv_iload_n hx hb dn_G_hasPlace_1 rfl (lv_at hl 0 rfl) ?_
  refine gr_cgt (tgt := 16) hx hb 0 k rfl rfl (by decide) (by omega) dn_G_hasPlace_2 (by decide) (fun h2 => absurd h2 (by omega)) (fun h2 => ?_)
  refine lv_iload_n hx hb dn_G_hasPlace_5 rfl (lv_at hl 0 rfl) ?_
  refine lv_sipush (v := 292) hx hb dn_G_hasPlace_6 (by decide) ?_
  refine gr_cge (tgt := 16) hx hb k 292 rfl rfl (by omega) (by decide) dn_G_hasPlace_9 (by decide) (fun h9 => absurd h9 (by omega)) (fun h9 => ?_)
  refine lv_iconst (v := 1) hx hb dn_G_hasPlace_12 (by decide) ?_
  refine lv_goto (tgt := 17) hx hb dn_G_hasPlace_13 (by decide) ?_
  exact hret 1 () _ _ _ _ rfl rfl hP hD hS dn_G_hasPlace_17

set_option maxRecDepth 100000 in
set_option maxHeartbeats 4000000 in
theorem c_G_hasPlace (l : Launch) (dC : Nat → ClassId) (dI : Nat → Nat → Nat) (cI cZ : ClassId) (x : Int32) : gc_I l yn_G_hasPlace (gw yn_G_hasPlace cn_G_hasPlace 1 (some .boolean)) (rm_ 0 0) (dC, dI) vwCl (gT cI cZ) [.int x] [] (fun r (_ : Unit) => (r = 1 ∧ ∃ k, k < 292 ∧ x = nI k) ∨ (r = 0 ∧ (x < 0 ∨ 292 ≤ x))) (fun _ => []) := by
  refine gc_I_of (cc := cn_G_hasPlace) (maxL := 1) (ty := .boolean) (by decide) rfl (Nat.le_of_ble_eq_true rfl) ?_
  intro pp ee ss mm ar be me cd A Q ls H0 H locs hx hb hml hown hts hK hP hD hS hA hl hret
  have hw : ∀ w ∈ gw_T, w.before ar ss = true := fun w h => hts w (List.mem_cons_of_mem _ h)
  have hl : lv_has ls 1 [(0, .int x)] := hl
  refine lv_iconst (v := 0) hx hb dn_G_hasPlace_0 (by decide) ?_
  refine lv_iload_n hx hb dn_G_hasPlace_1 rfl (lv_at hl 0 rfl) ?_
  refine lv_icmp_gt (tgt := 16) hx hb dn_G_hasPlace_2 (by decide) (fun h2 => ?_) (fun h2 => ?_)
  · skip
    refine lv_iconst (v := 0) hx hb dn_G_hasPlace_16 (by decide) ?_
    exact hret 0 () _ _ _ _ (Or.inr ⟨rfl, by first | exact Or.inl h2 | exact Or.inr h9⟩) rfl hP hD hS dn_G_hasPlace_17
  · skip
    refine lv_iload_n hx hb dn_G_hasPlace_5 rfl (lv_at hl 0 rfl) ?_
    refine lv_sipush (v := 292) hx hb dn_G_hasPlace_6 (by decide) ?_
    refine lv_icmp_ge (tgt := 16) hx hb dn_G_hasPlace_9 (by decide) (fun h9 => ?_) (fun h9 => ?_)
    · skip
      refine lv_iconst (v := 0) hx hb dn_G_hasPlace_16 (by decide) ?_
      exact hret 0 () _ _ _ _ (Or.inr ⟨rfl, by first | exact Or.inl h2 | exact Or.inr h9⟩) rfl hP hD hS dn_G_hasPlace_17
    · skip
      refine lv_iconst (v := 1) hx hb dn_G_hasPlace_12 (by decide) ?_
      refine lv_goto (tgt := 17) hx hb dn_G_hasPlace_13 (by decide) ?_
      exact hret 1 () _ _ _ _ (Or.inl ⟨rfl, gp_in 292 (by decide) h2 h9⟩) rfl hP hD hS dn_G_hasPlace_17

set_option maxRecDepth 100000 in
set_option maxHeartbeats 4000000 in
theorem c_G_recordPlace (l : Launch) (dC : Nat → ClassId) (dI : Nat → Nat → Nat) (cI cZ : ClassId) (k : Nat) : gc_I l yn_G_recordPlace (gw yn_G_recordPlace cn_G_recordPlace 1 (some .int)) (rm_ 0 0) (dC, dI) vwCl (gT cI cZ) [.int (nI k)] [] (fun r (_ : Unit) => r = (nI (7 * k))) (fun _ => []) := by
  refine gc_I_of (cc := cn_G_recordPlace) (maxL := 1) (ty := .int) (by decide) rfl (Nat.le_of_ble_eq_true rfl) ?_
  intro pp ee ss mm ar be me cd A Q ls H0 H locs hx hb hml hown hts hK hP hD hS hA hl hret
  have hw : ∀ w ∈ gw_T, w.before ar ss = true := fun w h => hts w (List.mem_cons_of_mem _ h)
  have hl : lv_has ls 1 [(0, .int (nI k))] := hl
  refine lv_bipush (v := 7) hx hb dn_G_recordPlace_0 (by decide) ?_
  refine lv_iload_n hx hb dn_G_recordPlace_2 rfl (lv_at hl 0 rfl) ?_
  refine gr_mulN hx hb 7 k rfl rfl dn_G_recordPlace_3 ?_
  exact hret (nI (7 * k)) () _ _ _ _ rfl rfl hP hD hS dn_G_recordPlace_4

set_option maxRecDepth 100000 in
set_option maxHeartbeats 4000000 in
theorem c_G_keyPlace (l : Launch) (dC : Nat → ClassId) (dI : Nat → Nat → Nat) (cI cZ : ClassId) (k : Nat) : gc_I l yn_G_keyPlace (gw yn_G_keyPlace cn_G_keyPlace 1 (some .int)) (rm_ 0 0) (dC, dI) vwCl (gT cI cZ) [.int (nI k)] [] (fun r (_ : Unit) => r = (nI (279 + k))) (fun _ => []) := by
  refine gc_I_of (cc := cn_G_keyPlace) (maxL := 1) (ty := .int) (by decide) rfl (Nat.le_of_ble_eq_true rfl) ?_
  intro pp ee ss mm ar be me cd A Q ls H0 H locs hx hb hml hown hts hK hP hD hS hA hl hret
  have hw : ∀ w ∈ gw_T, w.before ar ss = true := fun w h => hts w (List.mem_cons_of_mem _ h)
  have hl : lv_has ls 1 [(0, .int (nI k))] := hl
  refine lv_sipush (v := 279) hx hb dn_G_keyPlace_0 (by decide) ?_
  refine lv_iload_n hx hb dn_G_keyPlace_3 rfl (lv_at hl 0 rfl) ?_
  refine gr_addN hx hb 279 k rfl rfl dn_G_keyPlace_4 ?_
  exact hret (nI (279 + k)) () _ _ _ _ rfl rfl hP hD hS dn_G_keyPlace_5

set_option maxRecDepth 100000 in
set_option maxHeartbeats 4000000 in
theorem c_G_read (l : Launch) (dC : Nat → ClassId) (dI : Nat → Nat → Nat) (cI cZ : ClassId) (a0 a1 a2 : Nat) (f g : Nat → Int32) (k : Nat) (hk : k < 292) : gc_I l yn_G_read (gw yn_G_read cn_G_read 2 (some .int)) (rm_ 1 20) (dC, dI) vwCl (gT cI cZ) [.ref a0, .int (nI k)] [(a0, .inr (3, [.ref a1, .ref a2])), (a1, .inl (cI, 292, .inl f)), (a2, .inl (cI, 40, .inl g))] (fun r (_ : Unit) => r = f k) (fun _ => [(a0, .inr (3, [.ref a1, .ref a2])), (a1, .inl (cI, 292, .inl f)), (a2, .inl (cI, 40, .inl g))]) := by
  refine gc_I_of (cc := cn_G_read) (maxL := 2) (ty := .int) (by decide) rfl (Nat.le_of_ble_eq_true rfl) ?_
  intro pp ee ss mm ar be me cd A Q ls H0 H locs hx hb hml hown hts hK hP hD hS hA hl hret
  have hw : ∀ w ∈ gw_T, w.before ar ss = true := fun w h => hts w (List.mem_cons_of_mem _ h)
  have hl : lv_has ls 2 [(0, .ref a0), (1, .int (nI k))] := hl
  refine lv_iload_n hx hb dn_G_read_0 rfl (lv_at hl 1 rfl) ?_
  refine gc_s0 (v := 1) (As := [.int (nI k)]) (rest := []) ⟨hx, hb, hml, hown, hw⟩ (c_G_hasPlaceN l dC dI cI cZ k (by omega)) (gw_cS 1 hw mw_202 mw_203 mw_2 mw_204 hd_G_hasPlace ⟨Nat.le_of_ble_eq_true rfl, Nat.le_of_ble_eq_true rfl⟩) hK hP hD hS hA rfl hl.1 rfl (Nat.le_of_ble_eq_true rfl) dn_G_read_1 ⟨Nat.zero_le _, Nat.zero_le _⟩ (fun H locs hP hD hS => ?_)
  refine lv_if_eq (tgt := 16) hx hb dn_G_read_4 (by decide) (fun h => absurd h (by decide)) (fun _ => ?_)
  refine lv_aload_n hx hb dn_G_read_7 rfl (lv_at hl 0 rfl) ?_
  refine va_get (D := (dC, dI)) (ci := 3) (v := .ref a1) (C := rn_G) (T := tn_G) (N := 2) hx hb hw ml_G hown hK hP 0 rfl rfl 0 (by decide) (hw _ mw_23) (fun _ h9 => h9) rfl dn_G_read_8 ?_
  refine lv_iload_n hx hb dn_G_read_11 rfl (lv_at hl 1 rfl) ?_
  refine gr_iald hx hb hK hP 1 0 rfl rfl k rfl (by omega) (by decide) dn_G_read_12 ?_
  refine lv_goto (tgt := 17) hx hb dn_G_read_13 (by decide) ?_
  exact hret (f k) () _ _ _ _ rfl rfl hP hD hS dn_G_read_17

set_option maxRecDepth 100000 in
set_option maxHeartbeats 4000000 in
theorem c_G_store (l : Launch) (dC : Nat → ClassId) (dI : Nat → Nat → Nat) (cI cZ : ClassId) (a0 a1 a2 : Nat) (f g : Nat → Int32) (k : Nat) (hk : k < 292) (v : Int32) : gc_V l yn_G_store (gw yn_G_store cn_G_store 3 none) (rm_ 1 20) (dC, dI) vwCl (gT cI cZ) [.ref a0, .int (nI k), .int v] [(a0, .inr (3, [.ref a1, .ref a2])), (a1, .inl (cI, 292, .inl f)), (a2, .inl (cI, 40, .inl g))] (fun (_ : Unit) => True) (fun _ => [(a0, .inr (3, [.ref a1, .ref a2])), (a1, .inl (cI, 292, .inl (upd f k v))), (a2, .inl (cI, 40, .inl g))]) := by
  refine gc_V_of (cc := cn_G_store) (maxL := 3) (by decide) rfl (Nat.le_of_ble_eq_true rfl) ?_
  intro pp ee ss mm ar be me cd A Q ls H0 H locs hx hb hml hown hts hK hP hD hS hA hl hret
  have hw : ∀ w ∈ gw_T, w.before ar ss = true := fun w h => hts w (List.mem_cons_of_mem _ h)
  have hl : lv_has ls 3 [(0, .ref a0), (1, .int (nI k)), (2, .int v)] := hl
  refine lv_iload_n hx hb dn_G_store_0 rfl (lv_at hl 1 rfl) ?_
  refine gc_s0 (v := 1) (As := [.int (nI k)]) (rest := []) ⟨hx, hb, hml, hown, hw⟩ (c_G_hasPlaceN l dC dI cI cZ k (by omega)) (gw_cS 1 hw mw_202 mw_203 mw_2 mw_204 hd_G_hasPlace ⟨Nat.le_of_ble_eq_true rfl, Nat.le_of_ble_eq_true rfl⟩) hK hP hD hS hA rfl hl.1 rfl (Nat.le_of_ble_eq_true rfl) dn_G_store_1 ⟨Nat.zero_le _, Nat.zero_le _⟩ (fun H locs hP hD hS => ?_)
  refine lv_if_eq (tgt := 14) hx hb dn_G_store_4 (by decide) (fun h => absurd h (by decide)) (fun _ => ?_)
  refine lv_aload_n hx hb dn_G_store_7 rfl (lv_at hl 0 rfl) ?_
  refine va_get (D := (dC, dI)) (ci := 3) (v := .ref a1) (C := rn_G) (T := tn_G) (N := 2) hx hb hw ml_G hown hK hP 0 rfl rfl 0 (by decide) (hw _ mw_23) (fun _ h9 => h9) rfl dn_G_store_8 ?_
  refine lv_iload_n hx hb dn_G_store_11 rfl (lv_at hl 1 rfl) ?_
  refine lv_iload_n hx hb dn_G_store_12 rfl (lv_at hl 2 rfl) ?_
  refine gr_iast hx hb hK hP hD hS 1 0 rfl rfl k rfl (by omega) (by decide) dn_G_store_13 (fun H locs hP hD hS => ?_)
  have hP : va_P (dC, dI) vwCl [(a0, .inr (3, [.ref a1, .ref a2])), (a1, .inl (cI, 292, .inl (upd f k v))), (a2, .inl (cI, 40, .inl g))] H := hP
  have hD : va_D A [(a0, .inr (3, [.ref a1, .ref a2])), (a1, .inl (cI, 292, .inl (upd f k v))), (a2, .inl (cI, 40, .inl g))] := hD
  exact hret () _ _ _ _ trivial hP hD hS dn_G_store_14

set_option maxRecDepth 100000 in
set_option maxHeartbeats 4000000 in
theorem c_G_field (l : Launch) (dC : Nat → ClassId) (dI : Nat → Nat → Nat) (cI cZ : ClassId) (a0 a1 a2 : Nat) (f g : Nat → Int32) (r j : Nat) (hk : 7 * r + j < 292) : gc_I l yn_G_field (gw yn_G_field cn_G_field 3 (some .int)) (rm_ 2 41) (dC, dI) vwCl (gT cI cZ) [.ref a0, .int (nI r), .int (nI j)] [(a0, .inr (3, [.ref a1, .ref a2])), (a1, .inl (cI, 292, .inl f)), (a2, .inl (cI, 40, .inl g))] (fun x (_ : Unit) => x = f (7 * r + j)) (fun _ => [(a0, .inr (3, [.ref a1, .ref a2])), (a1, .inl (cI, 292, .inl f)), (a2, .inl (cI, 40, .inl g))]) := by
  refine gc_I_of (cc := cn_G_field) (maxL := 3) (ty := .int) (by decide) rfl (Nat.le_of_ble_eq_true rfl) ?_
  intro pp ee ss mm ar be me cd A Q ls H0 H locs hx hb hml hown hts hK hP hD hS hA hl hret
  have hw : ∀ w ∈ gw_T, w.before ar ss = true := fun w h => hts w (List.mem_cons_of_mem _ h)
  have hl : lv_has ls 3 [(0, .ref a0), (1, .int (nI r)), (2, .int (nI j))] := hl
  refine lv_aload_n hx hb dn_G_field_0 rfl (lv_at hl 0 rfl) ?_
  refine lv_iload_n hx hb dn_G_field_1 rfl (lv_at hl 1 rfl) ?_
  refine gc_s0 (v := (nI (7 * r))) (As := [.int (nI r)]) (rest := [.ref a0]) ⟨hx, hb, hml, hown, hw⟩ (c_G_recordPlace l dC dI cI cZ r) (gw_cS 1 hw mw_269 mw_214 mw_2 mw_215 hd_G_recordPlace ⟨Nat.le_of_ble_eq_true rfl, Nat.le_of_ble_eq_true rfl⟩) hK hP hD hS hA rfl hl.1 rfl (Nat.le_of_ble_eq_true rfl) dn_G_field_2 ⟨Nat.zero_le _, Nat.zero_le _⟩ (fun H locs hP hD hS => ?_)
  refine lv_iload_n hx hb dn_G_field_5 rfl (lv_at hl 2 rfl) ?_
  refine gr_addN hx hb (7 * r) j rfl rfl dn_G_field_6 ?_
  refine gc_vi (pre := []) (wc := [(a0, .inr (3, [.ref a1, .ref a2])), (a1, .inl (cI, 292, .inl f)), (a2, .inl (cI, 40, .inl g))]) (po := []) (As := [.int (nI ((7 * r) + j))]) (rest := []) ⟨hx, hb, hml, hown, hw⟩ (c_G_read l dC dI cI cZ a0 a1 a2 f g ((7 * r) + j) (by omega)) (gw_cV 1 hw mw_270 mw_271 mw_272 mw_2 mw_273 hd_G_read ⟨Nat.le_of_ble_eq_true rfl, Nat.le_of_ble_eq_true rfl⟩) (ci := 3) rfl rfl rfl hK hP hD hS hA rfl hl.1 rfl (Nat.le_of_ble_eq_true rfl) dn_G_field_7 ⟨Nat.zero_le _, Nat.zero_le _⟩ (fun r7 u7 H locs hc7 hP hD hS => ?_)
  subst hc7
  have hP : va_P (dC, dI) vwCl [(a0, .inr (3, [.ref a1, .ref a2])), (a1, .inl (cI, 292, .inl f)), (a2, .inl (cI, 40, .inl g))] H := hP
  have hD : va_D A [(a0, .inr (3, [.ref a1, .ref a2])), (a1, .inl (cI, 292, .inl f)), (a2, .inl (cI, 40, .inl g))] := hD
  exact hret (f ((7 * r) + j)) () _ _ _ _ rfl rfl hP hD hS dn_G_field_10

set_option maxRecDepth 100000 in
set_option maxHeartbeats 4000000 in
theorem c_G_field0 (l : Launch) (dC : Nat → ClassId) (dI : Nat → Nat → Nat) (cI cZ : ClassId) (a0 a1 a2 : Nat) (f g : Nat → Int32) (r : Nat) (hk : 7 * r < 292) : gc_I l yn_G_field (gw yn_G_field cn_G_field 3 (some .int)) (rm_ 2 41) (dC, dI) vwCl (gT cI cZ) [.ref a0, .int (nI r), .int 0] [(a0, .inr (3, [.ref a1, .ref a2])), (a1, .inl (cI, 292, .inl f)), (a2, .inl (cI, 40, .inl g))] (fun x (_ : Unit) => x = f (7 * r)) (fun _ => [(a0, .inr (3, [.ref a1, .ref a2])), (a1, .inl (cI, 292, .inl f)), (a2, .inl (cI, 40, .inl g))]) := by
  refine gc_I_of (cc := cn_G_field) (maxL := 3) (ty := .int) (by decide) rfl (Nat.le_of_ble_eq_true rfl) ?_
  intro pp ee ss mm ar be me cd A Q ls H0 H locs hx hb hml hown hts hK hP hD hS hA hl hret
  have hw : ∀ w ∈ gw_T, w.before ar ss = true := fun w h => hts w (List.mem_cons_of_mem _ h)
  have hl : lv_has ls 3 [(0, .ref a0), (1, .int (nI r)), (2, .int 0)] := hl
  refine lv_aload_n hx hb dn_G_field_0 rfl (lv_at hl 0 rfl) ?_
  refine lv_iload_n hx hb dn_G_field_1 rfl (lv_at hl 1 rfl) ?_
  refine gc_s0 (v := (nI (7 * r))) (As := [.int (nI r)]) (rest := [.ref a0]) ⟨hx, hb, hml, hown, hw⟩ (c_G_recordPlace l dC dI cI cZ r) (gw_cS 1 hw mw_269 mw_214 mw_2 mw_215 hd_G_recordPlace ⟨Nat.le_of_ble_eq_true rfl, Nat.le_of_ble_eq_true rfl⟩) hK hP hD hS hA rfl hl.1 rfl (Nat.le_of_ble_eq_true rfl) dn_G_field_2 ⟨Nat.zero_le _, Nat.zero_le _⟩ (fun H locs hP hD hS => ?_)
  refine lv_iload_n hx hb dn_G_field_5 rfl (lv_at hl 2 rfl) ?_
  refine gr_addN hx hb (7 * r) 0 rfl rfl dn_G_field_6 ?_
  refine gc_vi (pre := []) (wc := [(a0, .inr (3, [.ref a1, .ref a2])), (a1, .inl (cI, 292, .inl f)), (a2, .inl (cI, 40, .inl g))]) (po := []) (As := [.int (nI ((7 * r) + 0))]) (rest := []) ⟨hx, hb, hml, hown, hw⟩ (c_G_read l dC dI cI cZ a0 a1 a2 f g ((7 * r) + 0) (by omega)) (gw_cV 1 hw mw_270 mw_271 mw_272 mw_2 mw_273 hd_G_read ⟨Nat.le_of_ble_eq_true rfl, Nat.le_of_ble_eq_true rfl⟩) (ci := 3) rfl rfl rfl hK hP hD hS hA rfl hl.1 rfl (Nat.le_of_ble_eq_true rfl) dn_G_field_7 ⟨Nat.zero_le _, Nat.zero_le _⟩ (fun r7 u7 H locs hc7 hP hD hS => ?_)
  subst hc7
  have hP : va_P (dC, dI) vwCl [(a0, .inr (3, [.ref a1, .ref a2])), (a1, .inl (cI, 292, .inl f)), (a2, .inl (cI, 40, .inl g))] H := hP
  have hD : va_D A [(a0, .inr (3, [.ref a1, .ref a2])), (a1, .inl (cI, 292, .inl f)), (a2, .inl (cI, 40, .inl g))] := hD
  exact hret (f ((7 * r) + 0)) () _ _ _ _ rfl rfl hP hD hS dn_G_field_10

set_option maxRecDepth 100000 in
set_option maxHeartbeats 4000000 in
theorem c_G_leaf (l : Launch) (dC : Nat → ClassId) (dI : Nat → Nat → Nat) (cI cZ : ClassId) (a0 a1 a2 : Nat) (f g : Nat → Int32) (r : Nat) (hk : r < 40) : gc_I l yn_G_leaf (gw yn_G_leaf cn_G_leaf 2 (some .int)) (rm_ 3 66) (dC, dI) vwCl (gT cI cZ) [.ref a0, .int (nI r)] [(a0, .inr (3, [.ref a1, .ref a2])), (a1, .inl (cI, 292, .inl f)), (a2, .inl (cI, 40, .inl g))] (fun x (_ : Unit) => x = hf_leaf f (7 * r)) (fun _ => [(a0, .inr (3, [.ref a1, .ref a2])), (a1, .inl (cI, 292, .inl f)), (a2, .inl (cI, 40, .inl g))]) := by
  refine gc_I_of (cc := cn_G_leaf) (maxL := 2) (ty := .int) (by decide) rfl (Nat.le_of_ble_eq_true rfl) ?_
  intro pp ee ss mm ar be me cd A Q ls H0 H locs hx hb hml hown hts hK hP hD hS hA hl hret
  have hw : ∀ w ∈ gw_T, w.before ar ss = true := fun w h => hts w (List.mem_cons_of_mem _ h)
  have hl : lv_has ls 2 [(0, .ref a0), (1, .int (nI r))] := hl
  refine lv_aload_n hx hb dn_G_leaf_0 rfl (lv_at hl 0 rfl) ?_
  refine va_get (D := (dC, dI)) (ci := 3) (v := .ref a1) (C := rn_G) (T := tn_G) (N := 2) hx hb hw ml_G hown hK hP 0 rfl rfl 0 (by decide) (hw _ mw_23) (fun _ h9 => h9) rfl dn_G_leaf_1 ?_
  refine lv_iload_n hx hb dn_G_leaf_4 rfl (lv_at hl 1 rfl) ?_
  refine gc_s0 (v := (nI (7 * r))) (As := [.int (nI r)]) (rest := [.ref a1]) ⟨hx, hb, hml, hown, hw⟩ (c_G_recordPlace l dC dI cI cZ r) (gw_cS 1 hw mw_269 mw_214 mw_2 mw_215 hd_G_recordPlace ⟨Nat.le_of_ble_eq_true rfl, Nat.le_of_ble_eq_true rfl⟩) hK hP hD hS hA rfl hl.1 rfl (Nat.le_of_ble_eq_true rfl) dn_G_leaf_5 ⟨Nat.zero_le _, Nat.zero_le _⟩ (fun H locs hP hD hS => ?_)
  refine gc_si (pre := [(a0, .inr (3, [.ref a1, .ref a2]))]) (wc := [(a1, .inl (cI, 292, .inl f))]) (po := [(a2, .inl (cI, 40, .inl g))]) (As := [.ref a1, .int (nI (7 * r))]) (rest := []) ⟨hx, hb, hml, hown, hw⟩ (c_H_leafAt l dC dI cI cZ a1 f 292 (7 * r) (by omega) (by decide)) (gw_cS 2 hw mw_309 mw_189 mw_7 mw_190 hd_H_leafAt ⟨Nat.le_of_ble_eq_true rfl, Nat.le_of_ble_eq_true rfl⟩) hK hP hD hS hA rfl hl.1 rfl (Nat.le_of_ble_eq_true rfl) dn_G_leaf_8 ⟨Nat.zero_le _, Nat.zero_le _⟩ (fun r8 u8 H locs hc8 hP hD hS => ?_)
  subst hc8
  have hP : va_P (dC, dI) vwCl [(a0, .inr (3, [.ref a1, .ref a2])), (a1, .inl (cI, 292, .inl f)), (a2, .inl (cI, 40, .inl g))] H := hP
  have hD : va_D A [(a0, .inr (3, [.ref a1, .ref a2])), (a1, .inl (cI, 292, .inl f)), (a2, .inl (cI, 40, .inl g))] := hD
  exact hret (hf_leaf f (7 * r)) () _ _ _ _ rfl rfl hP hD hS dn_G_leaf_11

set_option maxRecDepth 100000 in
set_option maxHeartbeats 4000000 in
theorem c_G_checkIsRight (l : Launch) (dC : Nat → ClassId) (dI : Nat → Nat → Nat) (cI cZ : ClassId) (a0 a1 a2 : Nat) (f g : Nat → Int32) (r : Nat) (hk : r < 40) : gc_I l yn_G_checkIsRight (gw yn_G_checkIsRight cn_G_checkIsRight 2 (some .boolean)) (rm_ 4 87) (dC, dI) vwCl (gT cI cZ) [.ref a0, .int (nI r)] [(a0, .inr (3, [.ref a1, .ref a2])), (a1, .inl (cI, 292, .inl f)), (a2, .inl (cI, 40, .inl g))] (fun x (_ : Unit) => (x = 1 ∧ f (7 * r + 6) = (hf_leaf f (7 * r) ||| 1)) ∨ (x = 0 ∧ ¬ f (7 * r + 6) = (hf_leaf f (7 * r) ||| 1))) (fun _ => [(a0, .inr (3, [.ref a1, .ref a2])), (a1, .inl (cI, 292, .inl f)), (a2, .inl (cI, 40, .inl g))]) := by
  refine gc_I_of (cc := cn_G_checkIsRight) (maxL := 2) (ty := .boolean) (by decide) rfl (Nat.le_of_ble_eq_true rfl) ?_
  intro pp ee ss mm ar be me cd A Q ls H0 H locs hx hb hml hown hts hK hP hD hS hA hl hret
  have hw : ∀ w ∈ gw_T, w.before ar ss = true := fun w h => hts w (List.mem_cons_of_mem _ h)
  have hl : lv_has ls 2 [(0, .ref a0), (1, .int (nI r))] := hl
  refine lv_aload_n hx hb dn_G_checkIsRight_0 rfl (lv_at hl 0 rfl) ?_
  refine lv_iload_n hx hb dn_G_checkIsRight_1 rfl (lv_at hl 1 rfl) ?_
  refine lv_bipush (v := 6) hx hb dn_G_checkIsRight_2 (by decide) ?_
  refine gc_vi (pre := []) (wc := [(a0, .inr (3, [.ref a1, .ref a2])), (a1, .inl (cI, 292, .inl f)), (a2, .inl (cI, 40, .inl g))]) (po := []) (As := [.int (nI r), .int 6]) (rest := []) ⟨hx, hb, hml, hown, hw⟩ (c_G_field l dC dI cI cZ a0 a1 a2 f g r 6 (by omega)) (gw_cV 2 hw mw_434 mw_266 mw_267 mw_2 mw_268 hd_G_field ⟨Nat.le_of_ble_eq_true rfl, Nat.le_of_ble_eq_true rfl⟩) (ci := 3) rfl rfl rfl hK hP hD hS hA rfl hl.1 rfl (Nat.le_of_ble_eq_true rfl) dn_G_checkIsRight_4 ⟨Nat.zero_le _, Nat.zero_le _⟩ (fun r4 u4 H locs hc4 hP hD hS => ?_)
  subst hc4
  have hP : va_P (dC, dI) vwCl [(a0, .inr (3, [.ref a1, .ref a2])), (a1, .inl (cI, 292, .inl f)), (a2, .inl (cI, 40, .inl g))] H := hP
  have hD : va_D A [(a0, .inr (3, [.ref a1, .ref a2])), (a1, .inl (cI, 292, .inl f)), (a2, .inl (cI, 40, .inl g))] := hD
  refine lv_aload_n hx hb dn_G_checkIsRight_7 rfl (lv_at hl 0 rfl) ?_
  refine lv_iload_n hx hb dn_G_checkIsRight_8 rfl (lv_at hl 1 rfl) ?_
  refine gc_vi (pre := []) (wc := [(a0, .inr (3, [.ref a1, .ref a2])), (a1, .inl (cI, 292, .inl f)), (a2, .inl (cI, 40, .inl g))]) (po := []) (As := [.int (nI r)]) (rest := [.int (f (7 * r + 6))]) ⟨hx, hb, hml, hown, hw⟩ (c_G_leaf l dC dI cI cZ a0 a1 a2 f g r (by omega)) (gw_cV 1 hw mw_305 mw_307 mv_12 mw_2 mw_308 hd_G_leaf ⟨Nat.le_of_ble_eq_true rfl, Nat.le_of_ble_eq_true rfl⟩) (ci := 3) rfl rfl rfl hK hP hD hS hA rfl hl.1 rfl (Nat.le_of_ble_eq_true rfl) dn_G_checkIsRight_9 ⟨Nat.zero_le _, Nat.zero_le _⟩ (fun r9 u9 H locs hc9 hP hD hS => ?_)
  subst hc9
  have hP : va_P (dC, dI) vwCl [(a0, .inr (3, [.ref a1, .ref a2])), (a1, .inl (cI, 292, .inl f)), (a2, .inl (cI, 40, .inl g))] H := hP
  have hD : va_D A [(a0, .inr (3, [.ref a1, .ref a2])), (a1, .inl (cI, 292, .inl f)), (a2, .inl (cI, 40, .inl g))] := hD
  refine lv_iconst (v := 1) hx hb dn_G_checkIsRight_12 (by decide) ?_
  refine lv_ior hx hb dn_G_checkIsRight_13 ?_
  refine lv_icmp_ne (tgt := 21) hx hb dn_G_checkIsRight_14 (by decide) (fun h14 => ?_) (fun h14 => ?_)
  · skip
    refine lv_iconst (v := 0) hx hb dn_G_checkIsRight_21 (by decide) ?_
    exact hret 0 () _ _ _ _ (Or.inr ⟨rfl, h14⟩) rfl hP hD hS dn_G_checkIsRight_22
  · skip
    refine lv_iconst (v := 1) hx hb dn_G_checkIsRight_17 (by decide) ?_
    refine lv_goto (tgt := 22) hx hb dn_G_checkIsRight_18 (by decide) ?_
    exact hret 1 () _ _ _ _ (Or.inl ⟨rfl, h14⟩) rfl hP hD hS dn_G_checkIsRight_22

set_option maxRecDepth 100000 in
set_option maxHeartbeats 4000000 in
theorem c_G_wipeRecordsFrom (l : Launch) (dC : Nat → ClassId) (dI : Nat → Nat → Nat) (cI cZ : ClassId) (a0 a1 a2 : Nat) (f g : Nat → Int32) (n : Nat) (hk : n ≤ 40) : gc_V l yn_G_wipeRecordsFrom (gw yn_G_wipeRecordsFrom cn_G_wipeRecordsFrom 4 none) (rm_ 2 42) (dC, dI) vwCl (gT cI cZ) [.ref a0, .int (nI n)] [(a0, .inr (3, [.ref a1, .ref a2])), (a1, .inl (cI, 292, .inl f)), (a2, .inl (cI, 40, .inl g))] (fun (_ : Unit) => True) (fun _ => [(a0, .inr (3, [.ref a1, .ref a2])), (a1, .inl (cI, 292, .inl (wp_p f n 280))), (a2, .inl (cI, 40, .inl g))]) := by
  refine gc_V_of (cc := cn_G_wipeRecordsFrom) (maxL := 4) (by decide) rfl (Nat.le_of_ble_eq_true rfl) ?_
  intro pp ee ss mm ar be me cd A Q ls H0 H locs hx hb hml hown hts hK hP hD hS hA hl hret
  have hw : ∀ w ∈ gw_T, w.before ar ss = true := fun w h => hts w (List.mem_cons_of_mem _ h)
  have hl : lv_has ls 4 [(0, .ref a0), (1, .int (nI n))] := hl
  refine lv_bipush (v := 40) hx hb dn_G_wipeRecordsFrom_0 (by decide) ?_
  refine gc_s0 (v := (nI (7 * 40))) (As := [.int 40]) (rest := []) ⟨hx, hb, hml, hown, hw⟩ (c_G_recordPlace l dC dI cI cZ 40) (gw_cS 1 hw mw_269 mw_214 mw_2 mw_215 hd_G_recordPlace ⟨Nat.le_of_ble_eq_true rfl, Nat.le_of_ble_eq_true rfl⟩) hK hP hD hS hA rfl hl.1 rfl (Nat.le_of_ble_eq_true rfl) dn_G_wipeRecordsFrom_2 ⟨Nat.zero_le _, Nat.zero_le _⟩ (fun H locs hP hD hS => ?_)
  refine lv_istore_n (lv' := [(2, .int (nI (7 * 40))), (0, .ref a0), (1, .int (nI n))]) hx hb dn_G_wipeRecordsFrom_5 rfl hl (by decide) rfl (fun ls hl => ?_)
  refine lv_iload_n hx hb dn_G_wipeRecordsFrom_6 rfl (lv_at hl 2 rfl) ?_
  refine gc_s0 (v := (nI (7 * n))) (As := [.int (nI n)]) (rest := []) ⟨hx, hb, hml, hown, hw⟩ (c_G_recordPlace l dC dI cI cZ n) (gw_cS 1 hw mw_269 mw_214 mw_2 mw_215 hd_G_recordPlace ⟨Nat.le_of_ble_eq_true rfl, Nat.le_of_ble_eq_true rfl⟩) hK hP hD hS hA rfl hl.1 rfl (Nat.le_of_ble_eq_true rfl) dn_G_wipeRecordsFrom_7 ⟨Nat.zero_le _, Nat.zero_le _⟩ (fun H locs hP hD hS => ?_)
  refine lv_istore_n (lv' := [(3, .int (nI (7 * n))), (2, .int (nI (7 * 40))), (0, .ref a0), (1, .int (nI n))]) hx hb dn_G_wipeRecordsFrom_10 rfl hl (by decide) rfl (fun ls hl => ?_)
  rw [← wp_p_0 f n] at hP hD
  have hP : va_P (dC, dI) vwCl [(a0, .inr (3, [.ref a1, .ref a2])), (a1, .inl (cI, 292, .inl (wp_p f n (7 * n)))), (a2, .inl (cI, 40, .inl g))] H := hP
  have hD : va_D A [(a0, .inr (3, [.ref a1, .ref a2])), (a1, .inl (cI, 292, .inl (wp_p f n (7 * n)))), (a2, .inl (cI, 40, .inl g))] := hD
  have lp11 : ∀ (n_ : Nat) (a : Nat) (ls : Array Slot) (H : Heap) (locs : List Loc), 280 - a = n_ → lv_has ls 4 [(0, .ref a0), (1, .int (nI n)), (2, .int (nI (7 * 40))), (3, .int (nI a))] → va_P (dC, dI) vwCl [(a0, .inr (3, [.ref a1, .ref a2])), (a1, .inl (cI, 292, .inl (wp_p f n a))), (a2, .inl (cI, 40, .inl g))] H → va_D A [(a0, .inr (3, [.ref a1, .ref a2])), (a1, .inl (cI, 292, .inl (wp_p f n a))), (a2, .inl (cI, 40, .inl g))] → va_S A H0 H locs → (7 * n ≤ a) → (a ≤ 280) → W pp l ee (headSpec (gw yn_G_wipeRecordsFrom cn_G_wipeRecordsFrom 4 none) (rm_ 2 42)).room ss mm ar be me cd H locs 0 0 Q (F0 mm 11 ls []) := by
    intro n_
    induction n_ using Nat.strongRecOn with
    | ind n_ ih =>
      intro a ls H locs hn_ hl hP hD hS hi1 hi2
      refine lv_iload_n hx hb dn_G_wipeRecordsFrom_11 rfl (lv_at hl 3 rfl) ?_
      refine lv_iload_n hx hb dn_G_wipeRecordsFrom_12 rfl (lv_at hl 2 rfl) ?_
      refine gr_cge (tgt := 28) hx hb a (7 * 40) rfl rfl (by omega) (by omega) dn_G_wipeRecordsFrom_13 (by decide) (fun h13 => ?_) (fun h13 => ?_)
      · skip
        obtain rfl : 280 = a := by omega
        exact hret () _ _ _ _ trivial hP hD hS dn_G_wipeRecordsFrom_28
      · skip
        refine lv_aload_n hx hb dn_G_wipeRecordsFrom_16 rfl (lv_at hl 0 rfl) ?_
        refine lv_iload_n hx hb dn_G_wipeRecordsFrom_17 rfl (lv_at hl 3 rfl) ?_
        refine lv_iconst (v := 0) hx hb dn_G_wipeRecordsFrom_18 (by decide) ?_
        refine gc_vv (pre := []) (wc := [(a0, .inr (3, [.ref a1, .ref a2])), (a1, .inl (cI, 292, .inl (wp_p f n a))), (a2, .inl (cI, 40, .inl g))]) (po := []) (As := [.int (nI a), .int 0]) (rest := []) ⟨hx, hb, hml, hown, hw⟩ (c_G_store l dC dI cI cZ a0 a1 a2 (wp_p f n a) g a (by omega) 0) (gw_cV 2 hw mw_454 mw_199 mw_200 mw_2 mw_201 hd_G_store ⟨Nat.le_of_ble_eq_true rfl, Nat.le_of_ble_eq_true rfl⟩) (ci := 3) rfl rfl rfl hK hP hD hS hA rfl hl.1 rfl (Nat.le_of_ble_eq_true rfl) dn_G_wipeRecordsFrom_19 ⟨Nat.zero_le _, Nat.zero_le _⟩ (fun u19 H locs hc19 hP hD hS => ?_)
        have hP : va_P (dC, dI) vwCl [(a0, .inr (3, [.ref a1, .ref a2])), (a1, .inl (cI, 292, .inl (upd (wp_p f n a) a 0))), (a2, .inl (cI, 40, .inl g))] H := hP
        have hD : va_D A [(a0, .inr (3, [.ref a1, .ref a2])), (a1, .inl (cI, 292, .inl (upd (wp_p f n a) a 0))), (a2, .inl (cI, 40, .inl g))] := hD
        rw [show upd (wp_p f n a) a 0 = wp_p f n (a + 1) from (wp_p_s f (by omega))] at hP hD
        have hP : va_P (dC, dI) vwCl [(a0, .inr (3, [.ref a1, .ref a2])), (a1, .inl (cI, 292, .inl (wp_p f n (a + 1)))), (a2, .inl (cI, 40, .inl g))] H := hP
        have hD : va_D A [(a0, .inr (3, [.ref a1, .ref a2])), (a1, .inl (cI, 292, .inl (wp_p f n (a + 1)))), (a2, .inl (cI, 40, .inl g))] := hD
        refine lv_iinc (lv' := [(3, .int (nI (a + 1))), (0, .ref a0), (1, .int (nI n)), (2, .int (nI (7 * 40)))]) (v := (nI (a + 1))) (k := 3) hx hb dn_G_wipeRecordsFrom_22 hl rfl (nI_add a 1) (by decide) rfl (fun ls hl => ?_)
        refine lv_goto (tgt := 11) hx hb dn_G_wipeRecordsFrom_25 (by decide) ?_
        exact ih (280 - (a + 1)) (by omega) (a + 1) ls H locs rfl (lv_sub hl [1, 2, 3, 0] rfl) hP hD hS (by omega) (by omega)
  exact lp11 _ (7 * n) ls H locs rfl (lv_sub hl [2, 3, 1, 0] rfl) hP hD hS (Nat.le_refl _) (by omega)

set_option maxRecDepth 100000 in
set_option maxHeartbeats 4000000 in
theorem c_G_joinNeighbours (l : Launch) (dC : Nat → ClassId) (dI : Nat → Nat → Nat) (cI cZ : ClassId) (a0 a1 a2 : Nat) (f g : Nat → Int32) (w : Nat) (hw2 : 2 ≤ w) (hw40 : w ≤ 40) : gc_V l yn_G_joinNeighbours (gw yn_G_joinNeighbours cn_G_joinNeighbours 4 none) (rm_ 3 64) (dC, dI) vwCl (gT cI cZ) [.ref a0, .int (nI w)] [(a0, .inr (3, [.ref a1, .ref a2])), (a1, .inl (cI, 292, .inl f)), (a2, .inl (cI, 40, .inl g))] (fun (_ : Unit) => True) (fun _ => [(a0, .inr (3, [.ref a1, .ref a2])), (a1, .inl (cI, 292, .inl f)), (a2, .inl (cI, 40, .inl (tr_jn w g)))]) := by
  refine gc_V_of (cc := cn_G_joinNeighbours) (maxL := 4) (by decide) rfl (Nat.le_of_ble_eq_true rfl) ?_
  intro pp ee ss mm ar be me cd A Q ls H0 H locs hx hb hml hown hts hK hP hD hS hA hl hret
  have hw : ∀ w ∈ gw_T, w.before ar ss = true := fun w h => hts w (List.mem_cons_of_mem _ h)
  have hl : lv_has ls 4 [(0, .ref a0), (1, .int (nI w))] := hl
  refine lv_iload_n hx hb dn_G_joinNeighbours_0 rfl (lv_at hl 1 rfl) ?_
  refine lv_iconst (v := 2) hx hb dn_G_joinNeighbours_1 (by decide) ?_
  refine gr_divN hx hb w 2 rfl rfl (by omega) (by decide) (by decide) dn_G_joinNeighbours_2 ?_
  refine lv_istore_n (lv' := [(2, .int (nI (w / 2))), (0, .ref a0), (1, .int (nI w))]) hx hb dn_G_joinNeighbours_3 rfl hl (by decide) rfl (fun ls hl => ?_)
  refine lv_iconst (v := 0) hx hb dn_G_joinNeighbours_4 (by decide) ?_
  refine lv_istore_n (lv' := [(3, .int 0), (2, .int (nI (w / 2))), (0, .ref a0), (1, .int (nI w))]) hx hb dn_G_joinNeighbours_5 rfl hl (by decide) rfl (fun ls hl => ?_)
  rw [← tr_jp_0 g] at hP hD
  have hP : va_P (dC, dI) vwCl [(a0, .inr (3, [.ref a1, .ref a2])), (a1, .inl (cI, 292, .inl f)), (a2, .inl (cI, 40, .inl (tr_jp g 0)))] H := hP
  have hD : va_D A [(a0, .inr (3, [.ref a1, .ref a2])), (a1, .inl (cI, 292, .inl f)), (a2, .inl (cI, 40, .inl (tr_jp g 0)))] := hD
  have lp6 : ∀ (n_ : Nat) (j : Nat) (ls : Array Slot) (H : Heap) (locs : List Loc), w / 2 - j = n_ → lv_has ls 4 [(0, .ref a0), (1, .int (nI w)), (2, .int (nI (w / 2))), (3, .int (nI j))] → va_P (dC, dI) vwCl [(a0, .inr (3, [.ref a1, .ref a2])), (a1, .inl (cI, 292, .inl f)), (a2, .inl (cI, 40, .inl (tr_jp g j)))] H → va_D A [(a0, .inr (3, [.ref a1, .ref a2])), (a1, .inl (cI, 292, .inl f)), (a2, .inl (cI, 40, .inl (tr_jp g j)))] → va_S A H0 H locs → (j ≤ w / 2) → W pp l ee (headSpec (gw yn_G_joinNeighbours cn_G_joinNeighbours 4 none) (rm_ 3 64)).room ss mm ar be me cd H locs 0 0 Q (F0 mm 6 ls []) := by
    intro n_
    induction n_ using Nat.strongRecOn with
    | ind n_ ih =>
      intro j ls H locs hn_ hl hP hD hS hj
      refine lv_iload_n hx hb dn_G_joinNeighbours_6 rfl (lv_at hl 3 rfl) ?_
      refine lv_iload_n hx hb dn_G_joinNeighbours_7 rfl (lv_at hl 2 rfl) ?_
      refine gr_cge (tgt := 44) hx hb j (w / 2) rfl rfl (by omega) (by omega) dn_G_joinNeighbours_8 (by decide) (fun h8 => ?_) (fun h8 => ?_)
      · skip
        obtain rfl : w / 2 = j := by omega
        refine lv_iload_n hx hb dn_G_joinNeighbours_44 rfl (lv_at hl 1 rfl) ?_
        refine lv_iconst (v := 2) hx hb dn_G_joinNeighbours_45 (by decide) ?_
        refine gr_remN hx hb w 2 rfl rfl (by omega) (by decide) (by decide) dn_G_joinNeighbours_46 ?_
        refine lv_iconst (v := 1) hx hb dn_G_joinNeighbours_47 (by decide) ?_
        refine gr_cne (tgt := 65) hx hb (w % 2) 1 rfl rfl (by omega) (by decide) dn_G_joinNeighbours_48 (by decide) (fun h48 => ?_) (fun h48 => ?_)
        · skip
          rw [show tr_jp g (w / 2) = tr_jn w g from (by unfold tr_jn; rw [if_neg h48])] at hP hD
          have hP : va_P (dC, dI) vwCl [(a0, .inr (3, [.ref a1, .ref a2])), (a1, .inl (cI, 292, .inl f)), (a2, .inl (cI, 40, .inl (tr_jn w g)))] H := hP
          have hD : va_D A [(a0, .inr (3, [.ref a1, .ref a2])), (a1, .inl (cI, 292, .inl f)), (a2, .inl (cI, 40, .inl (tr_jn w g)))] := hD
          exact hret () _ _ _ _ trivial hP hD hS dn_G_joinNeighbours_65
        · skip
          refine lv_aload_n hx hb dn_G_joinNeighbours_51 rfl (lv_at hl 0 rfl) ?_
          refine va_get (D := (dC, dI)) (ci := 3) (v := .ref a2) (C := rn_G) (T := tn_G) (N := 2) hx hb hw ml_G hown hK hP 0 rfl rfl 1 (by decide) (hw _ mw_24) (fun _ h9 => h9) rfl dn_G_joinNeighbours_52 ?_
          refine lv_iload_n hx hb dn_G_joinNeighbours_55 rfl (lv_at hl 2 rfl) ?_
          refine lv_aload_n hx hb dn_G_joinNeighbours_56 rfl (lv_at hl 0 rfl) ?_
          refine va_get (D := (dC, dI)) (ci := 3) (v := .ref a2) (C := rn_G) (T := tn_G) (N := 2) hx hb hw ml_G hown hK hP 0 rfl rfl 1 (by decide) (hw _ mw_24) (fun _ h9 => h9) rfl dn_G_joinNeighbours_57 ?_
          refine lv_iload_n hx hb dn_G_joinNeighbours_60 rfl (lv_at hl 1 rfl) ?_
          refine lv_iconst (v := 1) hx hb dn_G_joinNeighbours_61 (by decide) ?_
          refine gr_subN hx hb w 1 rfl rfl (by omega) dn_G_joinNeighbours_62 ?_
          refine gr_iald hx hb hK hP 2 0 rfl rfl (w - 1) rfl (by omega) (by decide) dn_G_joinNeighbours_63 ?_
          refine gr_top (y := (g (w - 1))) (tr_jp_w g hw2) ?_
          refine gr_iast hx hb hK hP hD hS 2 0 rfl rfl (w / 2) rfl (by omega) (by decide) dn_G_joinNeighbours_64 (fun H locs hP hD hS => ?_)
          have hP : va_P (dC, dI) vwCl [(a0, .inr (3, [.ref a1, .ref a2])), (a1, .inl (cI, 292, .inl f)), (a2, .inl (cI, 40, .inl (upd (tr_jp g (w / 2)) (w / 2) (g (w - 1)))))] H := hP
          have hD : va_D A [(a0, .inr (3, [.ref a1, .ref a2])), (a1, .inl (cI, 292, .inl f)), (a2, .inl (cI, 40, .inl (upd (tr_jp g (w / 2)) (w / 2) (g (w - 1)))))] := hD
          rw [show upd (tr_jp g (w / 2)) (w / 2) (g (w - 1)) = tr_jn w g from (by unfold tr_jn; rw [if_pos h48])] at hP hD
          have hP : va_P (dC, dI) vwCl [(a0, .inr (3, [.ref a1, .ref a2])), (a1, .inl (cI, 292, .inl f)), (a2, .inl (cI, 40, .inl (tr_jn w g)))] H := hP
          have hD : va_D A [(a0, .inr (3, [.ref a1, .ref a2])), (a1, .inl (cI, 292, .inl f)), (a2, .inl (cI, 40, .inl (tr_jn w g)))] := hD
          exact hret () _ _ _ _ trivial hP hD hS dn_G_joinNeighbours_65
      · skip
        refine lv_aload_n hx hb dn_G_joinNeighbours_11 rfl (lv_at hl 0 rfl) ?_
        refine va_get (D := (dC, dI)) (ci := 3) (v := .ref a2) (C := rn_G) (T := tn_G) (N := 2) hx hb hw ml_G hown hK hP 0 rfl rfl 1 (by decide) (hw _ mw_24) (fun _ h9 => h9) rfl dn_G_joinNeighbours_12 ?_
        refine lv_iload_n hx hb dn_G_joinNeighbours_15 rfl (lv_at hl 3 rfl) ?_
        refine lv_aload_n hx hb dn_G_joinNeighbours_16 rfl (lv_at hl 0 rfl) ?_
        refine va_get (D := (dC, dI)) (ci := 3) (v := .ref a2) (C := rn_G) (T := tn_G) (N := 2) hx hb hw ml_G hown hK hP 0 rfl rfl 1 (by decide) (hw _ mw_24) (fun _ h9 => h9) rfl dn_G_joinNeighbours_17 ?_
        refine lv_iconst (v := 2) hx hb dn_G_joinNeighbours_20 (by decide) ?_
        refine lv_iload_n hx hb dn_G_joinNeighbours_21 rfl (lv_at hl 3 rfl) ?_
        refine gr_mulN hx hb 2 j rfl rfl dn_G_joinNeighbours_22 ?_
        refine gr_iald hx hb hK hP 2 0 rfl rfl (2 * j) rfl (by omega) (by decide) dn_G_joinNeighbours_23 ?_
        refine gr_top (y := (g (2 * j))) (tr_jp_a g j) ?_
        refine lv_aload_n hx hb dn_G_joinNeighbours_24 rfl (lv_at hl 0 rfl) ?_
        refine va_get (D := (dC, dI)) (ci := 3) (v := .ref a2) (C := rn_G) (T := tn_G) (N := 2) hx hb hw ml_G hown hK hP 0 rfl rfl 1 (by decide) (hw _ mw_24) (fun _ h9 => h9) rfl dn_G_joinNeighbours_25 ?_
        refine lv_iconst (v := 2) hx hb dn_G_joinNeighbours_28 (by decide) ?_
        refine lv_iload_n hx hb dn_G_joinNeighbours_29 rfl (lv_at hl 3 rfl) ?_
        refine gr_mulN hx hb 2 j rfl rfl dn_G_joinNeighbours_30 ?_
        refine lv_iconst (v := 1) hx hb dn_G_joinNeighbours_31 (by decide) ?_
        refine gr_addN hx hb (2 * j) 1 rfl rfl dn_G_joinNeighbours_32 ?_
        refine gr_iald hx hb hK hP 2 0 rfl rfl ((2 * j) + 1) rfl (by omega) (by decide) dn_G_joinNeighbours_33 ?_
        refine gr_top (y := (g (2 * j + 1))) (tr_jp_b g j) ?_
        refine gc_s0 (v := (hf_node (g (2 * j)) (g (2 * j + 1)))) (As := [.int (g (2 * j)), .int (g (2 * j + 1))]) (rest := [.int (nI j), .ref a2]) ⟨hx, hb, hml, hown, hw⟩ (c_H_node l dC dI cI cZ (g (2 * j)) (g (2 * j + 1))) (gw_cS 2 hw mw_314 mw_315 mw_7 mw_316 hd_H_node ⟨Nat.le_of_ble_eq_true rfl, Nat.le_of_ble_eq_true rfl⟩) hK hP hD hS hA rfl hl.1 rfl (Nat.le_of_ble_eq_true rfl) dn_G_joinNeighbours_34 ⟨Nat.zero_le _, Nat.zero_le _⟩ (fun H locs hP hD hS => ?_)
        refine gr_iast hx hb hK hP hD hS 2 0 rfl rfl j rfl (by omega) (by decide) dn_G_joinNeighbours_37 (fun H locs hP hD hS => ?_)
        have hP : va_P (dC, dI) vwCl [(a0, .inr (3, [.ref a1, .ref a2])), (a1, .inl (cI, 292, .inl f)), (a2, .inl (cI, 40, .inl (upd (tr_jp g j) j (hf_node (g (2 * j)) (g (2 * j + 1))))))] H := hP
        have hD : va_D A [(a0, .inr (3, [.ref a1, .ref a2])), (a1, .inl (cI, 292, .inl f)), (a2, .inl (cI, 40, .inl (upd (tr_jp g j) j (hf_node (g (2 * j)) (g (2 * j + 1))))))] := hD
        rw [show upd (tr_jp g j) j (hf_node (g (2 * j)) (g (2 * j + 1))) = tr_jp g (j + 1) from (tr_jp_s g j)] at hP hD
        have hP : va_P (dC, dI) vwCl [(a0, .inr (3, [.ref a1, .ref a2])), (a1, .inl (cI, 292, .inl f)), (a2, .inl (cI, 40, .inl (tr_jp g (j + 1))))] H := hP
        have hD : va_D A [(a0, .inr (3, [.ref a1, .ref a2])), (a1, .inl (cI, 292, .inl f)), (a2, .inl (cI, 40, .inl (tr_jp g (j + 1))))] := hD
        refine lv_iinc (lv' := [(3, .int (nI (j + 1))), (0, .ref a0), (1, .int (nI w)), (2, .int (nI (w / 2)))]) (v := (nI (j + 1))) (k := 3) hx hb dn_G_joinNeighbours_38 hl rfl (nI_add j 1) (by decide) rfl (fun ls hl => ?_)
        refine lv_goto (tgt := 6) hx hb dn_G_joinNeighbours_41 (by decide) ?_
        exact ih (w / 2 - (j + 1)) (by omega) (j + 1) ls H locs rfl (lv_sub hl [1, 2, 3, 0] rfl) hP hD hS (by omega)
  exact lp6 _ 0 ls H locs rfl (lv_sub hl [2, 3, 1, 0] rfl) hP hD hS (Nat.zero_le _)

set_option maxRecDepth 100000 in
set_option maxHeartbeats 4000000 in
theorem c_G_tree (l : Launch) (dC : Nat → ClassId) (dI : Nat → Nat → Nat) (cI cZ : ClassId) (a0 a1 a2 : Nat) (f g : Nat → Int32) (a cn : Nat) (hc1 : 1 ≤ cn) (hac : a + cn ≤ 40) : gc_I l yn_G_tree (gw yn_G_tree cn_G_tree 4 (some .int)) (rm_ 4 87) (dC, dI) vwCl (gT cI cZ) [.ref a0, .int (nI a), .int (nI cn)] [(a0, .inr (3, [.ref a1, .ref a2])), (a1, .inl (cI, 292, .inl f)), (a2, .inl (cI, 40, .inl g))] (fun x (_ : Unit) => x = tr_of f g a cn 0) (fun _ => [(a0, .inr (3, [.ref a1, .ref a2])), (a1, .inl (cI, 292, .inl f)), (a2, .inl (cI, 40, .inl (tr_of f g a cn)))]) := by
  refine gc_I_of (cc := cn_G_tree) (maxL := 4) (ty := .int) (by decide) rfl (Nat.le_of_ble_eq_true rfl) ?_
  intro pp ee ss mm ar be me cd A Q ls H0 H locs hx hb hml hown hts hK hP hD hS hA hl hret
  have hw : ∀ w ∈ gw_T, w.before ar ss = true := fun w h => hts w (List.mem_cons_of_mem _ h)
  have hl : lv_has ls 4 [(0, .ref a0), (1, .int (nI a)), (2, .int (nI cn))] := hl
  refine lv_iload_n hx hb dn_G_tree_0 rfl (lv_at hl 1 rfl) ?_
  refine gr_zlt (tgt := 17) hx hb a rfl (by omega) dn_G_tree_1 (by decide) ?_
  refine lv_iload_n hx hb dn_G_tree_4 rfl (lv_at hl 2 rfl) ?_
  refine lv_iconst (v := 1) hx hb dn_G_tree_5 (by decide) ?_
  refine gr_clt (tgt := 17) hx hb cn 1 rfl rfl (by omega) (by decide) dn_G_tree_6 (by decide) (fun h6 => absurd h6 (by omega)) (fun h6 => ?_)
  refine lv_iload_n hx hb dn_G_tree_9 rfl (lv_at hl 2 rfl) ?_
  refine lv_bipush (v := 40) hx hb dn_G_tree_10 (by decide) ?_
  refine lv_iload_n hx hb dn_G_tree_12 rfl (lv_at hl 1 rfl) ?_
  refine gr_subN hx hb 40 a rfl rfl (by omega) dn_G_tree_13 ?_
  refine gr_cle (tgt := 19) hx hb cn (40 - a) rfl rfl (by omega) (by omega) dn_G_tree_14 (by decide) (fun h14 => ?_) (fun h14 => absurd h14 (by omega))
  refine lv_iconst (v := 0) hx hb dn_G_tree_19 (by decide) ?_
  refine lv_istore_n (lv' := [(3, .int 0), (0, .ref a0), (1, .int (nI a)), (2, .int (nI cn))]) hx hb dn_G_tree_20 rfl hl (by decide) rfl (fun ls hl => ?_)
  rw [← tr_lv_0 f g a] at hP hD
  have hP : va_P (dC, dI) vwCl [(a0, .inr (3, [.ref a1, .ref a2])), (a1, .inl (cI, 292, .inl f)), (a2, .inl (cI, 40, .inl (tr_lv f a g 0)))] H := hP
  have hD : va_D A [(a0, .inr (3, [.ref a1, .ref a2])), (a1, .inl (cI, 292, .inl f)), (a2, .inl (cI, 40, .inl (tr_lv f a g 0)))] := hD
  have lp21 : ∀ (n_ : Nat) (j : Nat) (ls : Array Slot) (H : Heap) (locs : List Loc), cn - j = n_ → lv_has ls 4 [(0, .ref a0), (1, .int (nI a)), (2, .int (nI cn)), (3, .int (nI j))] → va_P (dC, dI) vwCl [(a0, .inr (3, [.ref a1, .ref a2])), (a1, .inl (cI, 292, .inl f)), (a2, .inl (cI, 40, .inl (tr_lv f a g j)))] H → va_D A [(a0, .inr (3, [.ref a1, .ref a2])), (a1, .inl (cI, 292, .inl f)), (a2, .inl (cI, 40, .inl (tr_lv f a g j)))] → va_S A H0 H locs → (j ≤ cn) → W pp l ee (headSpec (gw yn_G_tree cn_G_tree 4 (some .int)) (rm_ 4 87)).room ss mm ar be me cd H locs 0 0 Q (F0 mm 21 ls []) := by
    intro n_
    induction n_ using Nat.strongRecOn with
    | ind n_ ih =>
      intro j ls H locs hn_ hl hP hD hS hj
      refine lv_iload_n hx hb dn_G_tree_21 rfl (lv_at hl 3 rfl) ?_
      refine lv_iload_n hx hb dn_G_tree_22 rfl (lv_at hl 2 rfl) ?_
      refine gr_cge (tgt := 45) hx hb j cn rfl rfl (by omega) (by omega) dn_G_tree_23 (by decide) (fun h23 => ?_) (fun h23 => ?_)
      · skip
        obtain rfl : cn = j := by omega
        refine lv_iload_n hx hb dn_G_tree_45 rfl (lv_at hl 2 rfl) ?_
        refine lv_istore_n (lv' := [(3, .int (nI cn)), (0, .ref a0), (1, .int (nI a)), (2, .int (nI cn))]) hx hb dn_G_tree_46 rfl hl (by decide) rfl (fun ls hl => ?_)
        have lp47 : ∀ (n_ : Nat) (w : Nat) (k : Nat) (h : Nat → Int32) (ls : Array Slot) (H : Heap) (locs : List Loc), w = n_ → lv_has ls 4 [(0, .ref a0), (1, .int (nI a)), (2, .int (nI cn)), (3, .int (nI w))] → va_P (dC, dI) vwCl [(a0, .inr (3, [.ref a1, .ref a2])), (a1, .inl (cI, 292, .inl f)), (a2, .inl (cI, 40, .inl h))] H → va_D A [(a0, .inr (3, [.ref a1, .ref a2])), (a1, .inl (cI, 292, .inl f)), (a2, .inl (cI, 40, .inl h))] → va_S A H0 H locs → (1 ≤ w) → (w ≤ 40) → (w ≤ 2 ^ k) → (tr_go k w h = tr_of f g a cn) → W pp l ee (headSpec (gw yn_G_tree cn_G_tree 4 (some .int)) (rm_ 4 87)).room ss mm ar be me cd H locs 0 0 Q (F0 mm 47 ls []) := by
          intro n_
          induction n_ using Nat.strongRecOn with
          | ind n_ ih =>
            intro w k h ls H locs hn_ hl hP hD hS hw1 hw40 hk hi
            refine lv_iload_n hx hb dn_G_tree_47 rfl (lv_at hl 3 rfl) ?_
            refine lv_iconst (v := 1) hx hb dn_G_tree_48 (by decide) ?_
            refine gr_cle (tgt := 66) hx hb w 1 rfl rfl (by omega) (by decide) dn_G_tree_49 (by decide) (fun h49 => ?_) (fun h49 => ?_)
            · skip
              obtain rfl : tr_of f g a cn = h := by rw [← hi, tr_go_1 _ _ h49]
              refine lv_aload_n hx hb dn_G_tree_66 rfl (lv_at hl 0 rfl) ?_
              refine va_get (D := (dC, dI)) (ci := 3) (v := .ref a2) (C := rn_G) (T := tn_G) (N := 2) hx hb hw ml_G hown hK hP 0 rfl rfl 1 (by decide) (hw _ mw_24) (fun _ h9 => h9) rfl dn_G_tree_67 ?_
              refine lv_iconst (v := 0) hx hb dn_G_tree_70 (by decide) ?_
              refine gr_iald hx hb hK hP 2 0 rfl rfl 0 rfl (by omega) (by decide) dn_G_tree_71 ?_
              exact hret ((tr_of f g a cn) 0) () _ _ _ _ rfl rfl hP hD hS dn_G_tree_72
            · skip
              rcases k with _ | k
              · exact absurd hk (by rw [Nat.pow_zero]; omega)
              refine lv_aload_n hx hb dn_G_tree_52 rfl (lv_at hl 0 rfl) ?_
              refine lv_iload_n hx hb dn_G_tree_53 rfl (lv_at hl 3 rfl) ?_
              refine gc_vv (pre := []) (wc := [(a0, .inr (3, [.ref a1, .ref a2])), (a1, .inl (cI, 292, .inl f)), (a2, .inl (cI, 40, .inl h))]) (po := []) (As := [.int (nI w)]) (rest := []) ⟨hx, hb, hml, hown, hw⟩ (c_G_joinNeighbours l dC dI cI cZ a0 a1 a2 f h w (by omega) (by omega)) (gw_cV 1 hw mw_310 mw_312 mv_13 mw_2 mw_313 hd_G_joinNeighbours ⟨Nat.le_of_ble_eq_true rfl, Nat.le_of_ble_eq_true rfl⟩) (ci := 3) rfl rfl rfl hK hP hD hS hA rfl hl.1 rfl (Nat.le_of_ble_eq_true rfl) dn_G_tree_54 ⟨Nat.zero_le _, Nat.zero_le _⟩ (fun u54 H locs hc54 hP hD hS => ?_)
              have hP : va_P (dC, dI) vwCl [(a0, .inr (3, [.ref a1, .ref a2])), (a1, .inl (cI, 292, .inl f)), (a2, .inl (cI, 40, .inl (tr_jn w h)))] H := hP
              have hD : va_D A [(a0, .inr (3, [.ref a1, .ref a2])), (a1, .inl (cI, 292, .inl f)), (a2, .inl (cI, 40, .inl (tr_jn w h)))] := hD
              refine lv_iload_n hx hb dn_G_tree_57 rfl (lv_at hl 3 rfl) ?_
              refine lv_iconst (v := 1) hx hb dn_G_tree_58 (by decide) ?_
              refine gr_addN hx hb w 1 rfl rfl dn_G_tree_59 ?_
              refine lv_iconst (v := 2) hx hb dn_G_tree_60 (by decide) ?_
              refine gr_divN hx hb (w + 1) 2 rfl rfl (by omega) (by decide) (by decide) dn_G_tree_61 ?_
              refine lv_istore_n (lv' := [(3, .int (nI ((w + 1) / 2))), (0, .ref a0), (1, .int (nI a)), (2, .int (nI cn))]) hx hb dn_G_tree_62 rfl hl (by decide) rfl (fun ls hl => ?_)
              refine lv_goto (tgt := 47) hx hb dn_G_tree_63 (by decide) ?_
              exact ih ((w + 1) / 2) (by omega) ((w + 1) / 2) k (tr_jn w h) ls H locs rfl (lv_sub hl [1, 2, 3, 0] rfl) hP hD hS (by omega) (by omega) (by rw [Nat.pow_succ] at hk; omega) (by rw [← hi, tr_go, if_neg (by omega)])
        exact lp47 _ cn 6 (tr_lv f a g cn) ls H locs rfl (lv_sub hl [1, 2, 3, 0] rfl) hP hD hS (by omega) (by omega) (Nat.le_trans (show cn ≤ 40 by omega) (by decide)) rfl
      · skip
        refine lv_aload_n hx hb dn_G_tree_26 rfl (lv_at hl 0 rfl) ?_
        refine va_get (D := (dC, dI)) (ci := 3) (v := .ref a2) (C := rn_G) (T := tn_G) (N := 2) hx hb hw ml_G hown hK hP 0 rfl rfl 1 (by decide) (hw _ mw_24) (fun _ h9 => h9) rfl dn_G_tree_27 ?_
        refine lv_iload_n hx hb dn_G_tree_30 rfl (lv_at hl 3 rfl) ?_
        refine lv_aload_n hx hb dn_G_tree_31 rfl (lv_at hl 0 rfl) ?_
        refine lv_iload_n hx hb dn_G_tree_32 rfl (lv_at hl 1 rfl) ?_
        refine lv_iload_n hx hb dn_G_tree_33 rfl (lv_at hl 3 rfl) ?_
        refine gr_addN hx hb a j rfl rfl dn_G_tree_34 ?_
        refine gc_vi (pre := []) (wc := [(a0, .inr (3, [.ref a1, .ref a2])), (a1, .inl (cI, 292, .inl f)), (a2, .inl (cI, 40, .inl (tr_lv f a g j)))]) (po := []) (As := [.int (nI (a + j))]) (rest := [.int (nI j), .ref a2]) ⟨hx, hb, hml, hown, hw⟩ (c_G_leaf l dC dI cI cZ a0 a1 a2 f (tr_lv f a g j) (a + j) (by omega)) (gw_cV 1 hw mw_305 mw_307 mv_12 mw_2 mw_308 hd_G_leaf ⟨Nat.le_of_ble_eq_true rfl, Nat.le_of_ble_eq_true rfl⟩) (ci := 3) rfl rfl rfl hK hP hD hS hA rfl hl.1 rfl (Nat.le_of_ble_eq_true rfl) dn_G_tree_35 ⟨Nat.zero_le _, Nat.zero_le _⟩ (fun r35 u35 H locs hc35 hP hD hS => ?_)
        subst hc35
        have hP : va_P (dC, dI) vwCl [(a0, .inr (3, [.ref a1, .ref a2])), (a1, .inl (cI, 292, .inl f)), (a2, .inl (cI, 40, .inl (tr_lv f a g j)))] H := hP
        have hD : va_D A [(a0, .inr (3, [.ref a1, .ref a2])), (a1, .inl (cI, 292, .inl f)), (a2, .inl (cI, 40, .inl (tr_lv f a g j)))] := hD
        refine gr_iast hx hb hK hP hD hS 2 0 rfl rfl j rfl (by omega) (by decide) dn_G_tree_38 (fun H locs hP hD hS => ?_)
        have hP : va_P (dC, dI) vwCl [(a0, .inr (3, [.ref a1, .ref a2])), (a1, .inl (cI, 292, .inl f)), (a2, .inl (cI, 40, .inl (upd (tr_lv f a g j) j (hf_leaf f (7 * (a + j))))))] H := hP
        have hD : va_D A [(a0, .inr (3, [.ref a1, .ref a2])), (a1, .inl (cI, 292, .inl f)), (a2, .inl (cI, 40, .inl (upd (tr_lv f a g j) j (hf_leaf f (7 * (a + j))))))] := hD
        rw [show upd (tr_lv f a g j) j (hf_leaf f (7 * (a + j))) = tr_lv f a g (j + 1) from (tr_lv_s f g a j)] at hP hD
        have hP : va_P (dC, dI) vwCl [(a0, .inr (3, [.ref a1, .ref a2])), (a1, .inl (cI, 292, .inl f)), (a2, .inl (cI, 40, .inl (tr_lv f a g (j + 1))))] H := hP
        have hD : va_D A [(a0, .inr (3, [.ref a1, .ref a2])), (a1, .inl (cI, 292, .inl f)), (a2, .inl (cI, 40, .inl (tr_lv f a g (j + 1))))] := hD
        refine lv_iinc (lv' := [(3, .int (nI (j + 1))), (0, .ref a0), (1, .int (nI a)), (2, .int (nI cn))]) (v := (nI (j + 1))) (k := 3) hx hb dn_G_tree_39 hl rfl (nI_add j 1) (by decide) rfl (fun ls hl => ?_)
        refine lv_goto (tgt := 21) hx hb dn_G_tree_42 (by decide) ?_
        exact ih (cn - (j + 1)) (by omega) (j + 1) ls H locs rfl (lv_sub hl [1, 2, 3, 0] rfl) hP hD hS (by omega)
  exact lp21 _ 0 ls H locs rfl (lv_sub hl [1, 2, 3, 0] rfl) hP hD hS (Nat.zero_le _)

def rt_v (f g : Nat → Int32) (n : Nat) : Int32 := if n = 0 then 0 else tr_of f g 0 n 0
def rt_g (f g : Nat → Int32) (n : Nat) : Nat → Int32 := if n = 0 then g else tr_of f g 0 n

set_option maxRecDepth 100000 in
set_option maxHeartbeats 4000000 in
theorem c_G_rootOf (l : Launch) (dC : Nat → ClassId) (dI : Nat → Nat → Nat) (cI cZ : ClassId) (a0 a1 a2 : Nat) (f g : Nat → Int32) (n : Nat) (hn : n ≤ 40) : gc_I l yn_G_rootOf (gw yn_G_rootOf cn_G_rootOf 2 (some .int)) (rm_ 5 110) (dC, dI) vwCl (gT cI cZ) [.ref a0, .int (nI n)] [(a0, .inr (3, [.ref a1, .ref a2])), (a1, .inl (cI, 292, .inl f)), (a2, .inl (cI, 40, .inl g))] (fun x (_ : Unit) => x = rt_v f g n) (fun _ => [(a0, .inr (3, [.ref a1, .ref a2])), (a1, .inl (cI, 292, .inl f)), (a2, .inl (cI, 40, .inl (rt_g f g n)))]) := by
  refine gc_I_of (cc := cn_G_rootOf) (maxL := 2) (ty := .int) (by decide) rfl (Nat.le_of_ble_eq_true rfl) ?_
  intro pp ee ss mm ar be me cd A Q ls H0 H locs hx hb hml hown hts hK hP hD hS hA hl hret
  have hw : ∀ w ∈ gw_T, w.before ar ss = true := fun w h => hts w (List.mem_cons_of_mem _ h)
  have hl : lv_has ls 2 [(0, .ref a0), (1, .int (nI n))] := hl
  refine lv_iload_n hx hb dn_G_rootOf_0 rfl (lv_at hl 1 rfl) ?_
  refine gr_zne (tgt := 8) hx hb n rfl (by omega) dn_G_rootOf_1 (by decide) (fun h1 => ?_) (fun h1 => ?_)
  · skip
    refine lv_aload_n hx hb dn_G_rootOf_8 rfl (lv_at hl 0 rfl) ?_
    refine lv_iconst (v := 0) hx hb dn_G_rootOf_9 (by decide) ?_
    refine lv_iload_n hx hb dn_G_rootOf_10 rfl (lv_at hl 1 rfl) ?_
    refine gc_vi (pre := []) (wc := [(a0, .inr (3, [.ref a1, .ref a2])), (a1, .inl (cI, 292, .inl f)), (a2, .inl (cI, 40, .inl g))]) (po := []) (As := [.int 0, .int (nI n)]) (rest := []) ⟨hx, hb, hml, hown, hw⟩ (c_G_tree l dC dI cI cZ a0 a1 a2 f g 0 n (by omega) (by omega)) (gw_cV 2 hw mw_301 mw_302 mw_303 mw_2 mw_304 hd_G_tree ⟨Nat.le_of_ble_eq_true rfl, Nat.le_of_ble_eq_true rfl⟩) (ci := 3) rfl rfl rfl hK hP hD hS hA rfl hl.1 rfl (Nat.le_of_ble_eq_true rfl) dn_G_rootOf_11 ⟨Nat.zero_le _, Nat.zero_le _⟩ (fun r11 u11 H locs hc11 hP hD hS => ?_)
    subst hc11
    have hP : va_P (dC, dI) vwCl [(a0, .inr (3, [.ref a1, .ref a2])), (a1, .inl (cI, 292, .inl f)), (a2, .inl (cI, 40, .inl (tr_of f g 0 n)))] H := hP
    have hD : va_D A [(a0, .inr (3, [.ref a1, .ref a2])), (a1, .inl (cI, 292, .inl f)), (a2, .inl (cI, 40, .inl (tr_of f g 0 n)))] := hD
    rw [show tr_of f g 0 n = rt_g f g n from (by unfold rt_g; rw [if_neg h1])] at hP hD
    have hP : va_P (dC, dI) vwCl [(a0, .inr (3, [.ref a1, .ref a2])), (a1, .inl (cI, 292, .inl f)), (a2, .inl (cI, 40, .inl (rt_g f g n)))] H := hP
    have hD : va_D A [(a0, .inr (3, [.ref a1, .ref a2])), (a1, .inl (cI, 292, .inl f)), (a2, .inl (cI, 40, .inl (rt_g f g n)))] := hD
    exact hret (tr_of f g 0 n 0) () _ _ _ _ (by unfold rt_v; first | rw [if_pos h1] | rw [if_neg h1]) rfl hP hD hS dn_G_rootOf_14
  · skip
    refine lv_iconst (v := 0) hx hb dn_G_rootOf_4 (by decide) ?_
    refine lv_goto (tgt := 14) hx hb dn_G_rootOf_5 (by decide) ?_
    rw [show g = rt_g f g n from (by unfold rt_g; rw [if_pos h1])] at hP hD
    have hP : va_P (dC, dI) vwCl [(a0, .inr (3, [.ref a1, .ref a2])), (a1, .inl (cI, 292, .inl f)), (a2, .inl (cI, 40, .inl (rt_g f g n)))] H := hP
    have hD : va_D A [(a0, .inr (3, [.ref a1, .ref a2])), (a1, .inl (cI, 292, .inl f)), (a2, .inl (cI, 40, .inl (rt_g f g n)))] := hD
    exact hret 0 () _ _ _ _ (by unfold rt_v; first | rw [if_pos h1] | rw [if_neg h1]) rfl hP hD hS dn_G_rootOf_14
end
section
/-! rules, outcome by outcome -/
section RU
variable {ob : Nat} {S D G : Nat → Int32} {id v t k : Int32} {j : Nat}
theorem ru1_bad (h : v < 0 ∨ 1000000 < v) : (-1 : Int32) = ct_ru ob S D G 1 id v t := by
  unfold ct_ru; rw [if_pos ⟨Or.inl rfl, h⟩]
theorem ru1_short (h0 : ¬ (v < 0 ∨ 1000000 < v)) (h : v < t) : (-4 : Int32) = ct_ru ob S D G 1 id v t := by
  unfold ct_ru; rw [if_neg (fun q => h0 q.2), if_neg (fun q => absurd q.1 (by decide)), if_pos rfl, if_pos h]
theorem ru1_full (h0 : ¬ (v < 0 ∨ 1000000 < v)) (h : ¬ v < t) (h2 : 12 ≤ ob) : (-8 : Int32) = ct_ru ob S D G 1 id v t := by
  unfold ct_ru; rw [if_neg (fun q => h0 q.2), if_neg (fun q => absurd q.1 (by decide)), if_pos rfl, if_neg h, if_pos h2]
theorem ru1_ok (h0 : ¬ (v < 0 ∨ 1000000 < v)) (h : ¬ v < t) (h2 : ¬ 12 ≤ ob) : (0 : Int32) = ct_ru ob S D G 1 id v t := by
  unfold ct_ru; rw [if_neg (fun q => h0 q.2), if_neg (fun q => absurd q.1 (by decide)), if_pos rfl, if_neg h, if_neg h2]
theorem ru_in (h1 : 1 ≤ j) (h2 : j ≤ ob) (ho : ob ≤ 12) : ¬ (nI j < 1 ∨ nI ob < nI j) := by
  rintro (q | q)
  · exact absurd ((nI_ltI (a := j) (b := 1) (by omega) (by decide)).1 q) (by omega)
  · exact absurd ((nI_ltI (by omega) (by omega)).1 q) (by omega)
theorem ru2_bad (h : v < 0 ∨ 1000000 < v) : (-1 : Int32) = ct_ru ob S D G 2 id v t := by
  unfold ct_ru; rw [if_pos ⟨Or.inr rfl, h⟩]
theorem ru2_abs (h0 : ¬ (v < 0 ∨ 1000000 < v)) (h : id < 1 ∨ nI ob < id) : (-2 : Int32) = ct_ru ob S D G 2 id v t := by
  unfold ct_ru; rw [if_neg (fun q => h0 q.2), if_neg (fun q => absurd q.1 (by decide)), if_neg (by decide), if_pos h]
theorem ru2_gone (h0 : ¬ (v < 0 ∨ 1000000 < v)) (h1 : 1 ≤ j) (h2 : j ≤ ob) (ho : ob ≤ 12) (h : ¬ S j = 1) : (-3 : Int32) = ct_ru ob S D G 2 (nI j) v t := by
  unfold ct_ru; rw [nI_clamp (by omega), if_neg (fun q => h0 q.2), if_neg (fun q => absurd q.1 (by decide)), if_neg (by decide), if_neg (ru_in h1 h2 ho), if_pos (Or.inr ⟨by decide, h⟩)]
theorem ru_live (h : S j = 1) (hk : k ≠ 6) : ¬ ((k = 6 ∧ S j = 3) ∨ (k ≠ 6 ∧ S j ≠ 1)) := by
  rintro (q | q)
  · exact hk q.1
  · exact q.2 h
theorem ru2_short (h0 : ¬ (v < 0 ∨ 1000000 < v)) (h1 : 1 ≤ j) (h2 : j ≤ ob) (ho : ob ≤ 12) (h : S j = 1) (h3 : v ≤ D j) : (-4 : Int32) = ct_ru ob S D G 2 (nI j) v t := by
  unfold ct_ru; rw [nI_clamp (by omega), if_neg (fun q => h0 q.2), if_neg (fun q => absurd q.1 (by decide)), if_neg (by decide), if_neg (ru_in h1 h2 ho), if_neg (ru_live h (by decide)), if_pos rfl, if_pos h3]
theorem ru2_ok (h0 : ¬ (v < 0 ∨ 1000000 < v)) (h1 : 1 ≤ j) (h2 : j ≤ ob) (ho : ob ≤ 12) (h : S j = 1) (h3 : ¬ v ≤ D j) : (0 : Int32) = ct_ru ob S D G 2 (nI j) v t := by
  unfold ct_ru; rw [nI_clamp (by omega), if_neg (fun q => h0 q.2), if_neg (fun q => absurd q.1 (by decide)), if_neg (by decide), if_neg (ru_in h1 h2 ho), if_neg (ru_live h (by decide)), if_pos rfl, if_neg h3]
theorem ruh_n1 (hk : k = 3 ∨ k = 4) : ¬ ((k = 1 ∨ k = 2) ∧ (v < 0 ∨ 1000000 < v)) := by rcases hk with rfl | rfl <;> rintro ⟨q, -⟩ <;> exact absurd q (by decide)
theorem ruh_bad (hk : k = 3 ∨ k = 4) (h : v < 0 ∨ 7 < v) : (-1 : Int32) = ct_ru ob S D G k id v t := by
  unfold ct_ru; rw [if_neg (ruh_n1 hk), if_pos ⟨hk, h⟩]
theorem ruh_abs (hk : k = 3 ∨ k = 4) (h0 : ¬ (v < 0 ∨ 7 < v)) (h : id < 1 ∨ nI ob < id) : (-2 : Int32) = ct_ru ob S D G k id v t := by
  unfold ct_ru; rw [if_neg (ruh_n1 hk), if_neg (fun q => h0 q.2), if_neg (by rcases hk with rfl | rfl <;> decide), if_pos h]
theorem ruh_gone (hk : k = 3 ∨ k = 4) (h0 : ¬ (v < 0 ∨ 7 < v)) (h1 : 1 ≤ j) (h2 : j ≤ ob) (ho : ob ≤ 12) (h : ¬ S j = 1) : (-3 : Int32) = ct_ru ob S D G k (nI j) v t := by
  unfold ct_ru; rw [nI_clamp (by omega), if_neg (ruh_n1 hk), if_neg (fun q => h0 q.2), if_neg (by rcases hk with rfl | rfl <;> decide), if_neg (ru_in h1 h2 ho), if_pos (Or.inr ⟨by rcases hk with rfl | rfl <;> decide, h⟩)]
theorem ruh_same (hk : k = 3 ∨ k = 4) (h0 : ¬ (v < 0 ∨ 7 < v)) (h1 : 1 ≤ j) (h2 : j ≤ ob) (ho : ob ≤ 12) (h : S j = 1) (h3 : ct_has (G j) v ↔ k = 3) : (-5 : Int32) = ct_ru ob S D G k (nI j) v t := by
  unfold ct_ru; rw [nI_clamp (by omega), if_neg (ruh_n1 hk), if_neg (fun q => h0 q.2), if_neg (by rcases hk with rfl | rfl <;> decide), if_neg (ru_in h1 h2 ho), if_neg (ru_live h (by rcases hk with rfl | rfl <;> decide)), if_neg (by rcases hk with rfl | rfl <;> decide), if_neg (by rcases hk with rfl | rfl <;> decide), if_pos h3]
theorem ruh_ok (hk : k = 3 ∨ k = 4) (h0 : ¬ (v < 0 ∨ 7 < v)) (h1 : 1 ≤ j) (h2 : j ≤ ob) (ho : ob ≤ 12) (h : S j = 1) (h3 : ¬ (ct_has (G j) v ↔ k = 3)) : (0 : Int32) = ct_ru ob S D G k (nI j) v t := by
  unfold ct_ru; rw [nI_clamp (by omega), if_neg (ruh_n1 hk), if_neg (fun q => h0 q.2), if_neg (by rcases hk with rfl | rfl <;> decide), if_neg (ru_in h1 h2 ho), if_neg (ru_live h (by rcases hk with rfl | rfl <;> decide)), if_neg (by rcases hk with rfl | rfl <;> decide), if_neg (by rcases hk with rfl | rfl <;> decide), if_neg h3]
theorem rue_n1 (hk : k = 5 ∨ k = 6) : ¬ ((k = 1 ∨ k = 2) ∧ (v < 0 ∨ 1000000 < v)) := by rcases hk with rfl | rfl <;> rintro ⟨q, -⟩ <;> exact absurd q (by decide)
theorem rue_n2 (hk : k = 5 ∨ k = 6) : ¬ ((k = 3 ∨ k = 4) ∧ (v < 0 ∨ 7 < v)) := by rcases hk with rfl | rfl <;> rintro ⟨q, -⟩ <;> exact absurd q (by decide)
theorem rue_abs (hk : k = 5 ∨ k = 6) (h : id < 1 ∨ nI ob < id) : (-2 : Int32) = ct_ru ob S D G k id v t := by
  unfold ct_ru; rw [if_neg (rue_n1 hk), if_neg (rue_n2 hk), if_neg (by rcases hk with rfl | rfl <;> decide), if_pos h]
theorem rue_gone (hk : k = 5 ∨ k = 6) (h1 : 1 ≤ j) (h2 : j ≤ ob) (ho : ob ≤ 12) (h : (k = 6 ∧ S j = 3) ∨ (k ≠ 6 ∧ S j ≠ 1)) : (-3 : Int32) = ct_ru ob S D G k (nI j) v t := by
  unfold ct_ru; rw [nI_clamp (by omega), if_neg (rue_n1 hk), if_neg (rue_n2 hk), if_neg (by rcases hk with rfl | rfl <;> decide), if_neg (ru_in h1 h2 ho), if_pos h]
theorem rue_held (hk : k = 5 ∨ k = 6) (h1 : 1 ≤ j) (h2 : j ≤ ob) (ho : ob ≤ 12) (h : ¬ ((k = 6 ∧ S j = 3) ∨ (k ≠ 6 ∧ S j ≠ 1))) (h3 : ¬ G j = 0) : (-6 : Int32) = ct_ru ob S D G k (nI j) v t := by
  unfold ct_ru; rw [nI_clamp (by omega), if_neg (rue_n1 hk), if_neg (rue_n2 hk), if_neg (by rcases hk with rfl | rfl <;> decide), if_neg (ru_in h1 h2 ho), if_neg h, if_neg (by rcases hk with rfl | rfl <;> decide), if_pos (by rcases hk with rfl | rfl <;> decide), if_pos h3]
theorem rue_early (hk : k = 5 ∨ k = 6) (h1 : 1 ≤ j) (h2 : j ≤ ob) (ho : ob ≤ 12) (h : ¬ ((k = 6 ∧ S j = 3) ∨ (k ≠ 6 ∧ S j ≠ 1))) (h3 : G j = 0) (h4 : t < D j) : (-7 : Int32) = ct_ru ob S D G k (nI j) v t := by
  unfold ct_ru; rw [nI_clamp (by omega), if_neg (rue_n1 hk), if_neg (rue_n2 hk), if_neg (by rcases hk with rfl | rfl <;> decide), if_neg (ru_in h1 h2 ho), if_neg h, if_neg (by rcases hk with rfl | rfl <;> decide), if_pos (by rcases hk with rfl | rfl <;> decide), if_neg (fun q => q h3), if_pos h4]
theorem rue_ok (hk : k = 5 ∨ k = 6) (h1 : 1 ≤ j) (h2 : j ≤ ob) (ho : ob ≤ 12) (h : ¬ ((k = 6 ∧ S j = 3) ∨ (k ≠ 6 ∧ S j ≠ 1))) (h3 : G j = 0) (h4 : ¬ t < D j) : (0 : Int32) = ct_ru ob S D G k (nI j) v t := by
  unfold ct_ru; rw [nI_clamp (by omega), if_neg (rue_n1 hk), if_neg (rue_n2 hk), if_neg (by rcases hk with rfl | rfl <;> decide), if_neg (ru_in h1 h2 ho), if_neg h, if_neg (by rcases hk with rfl | rfl <;> decide), if_pos (by rcases hk with rfl | rfl <;> decide), if_neg (fun q => q h3), if_neg h4]
end RU
theorem ct_v8 {v : Int32} (h : ¬ (v < 0 ∨ 7 < v)) : ∃ w, w < 8 ∧ v = nI w := by
  obtain ⟨j, hj, e⟩ := nI_of2 (M := 7) (n := 7) (by decide) (fun q => h (Or.inl q)) (Int32.not_lt.mp (fun q => h (Or.inr q)))
  exact ⟨j, by omega, e⟩
theorem ct_hasB {g v : Int32} (hg : ∃ n, n < 256 ∧ g = nI n) (h : ¬ (v < 0 ∨ 7 < v)) : ct_has g v ↔ ¬ (g &&& ((1 : Int32) <<< (v &&& 31))) = 0 := by
  obtain ⟨n, hn, rfl⟩ := hg
  obtain ⟨w, hw, rfl⟩ := ct_v8 h
  exact (ct_bits w hw n hn).1
/-- the rules for any kind -/
def ct_vk (C : ct_T) (kind id v t : Int32) : Int32 := if 1 ≤ kind ∧ kind ≤ 6 then ct_ruC C kind id v t else -1
/-- state of an object, 0 if it isn't there -/
def ct_so (C : ct_T) (A : Nat → Int32) (id : Int32) : Int32 := if id < 1 ∨ nI C.1 < id then 0 else A id.toNatClampNeg
theorem ct_so_in {C : ct_T} {A : Nat → Int32} {j : Nat} (h1 : 1 ≤ j) (h2 : j ≤ C.1) (ho : C.1 ≤ 12) : ct_so C A (nI j) = A j := by
  unfold ct_so; rw [if_neg (ru_in h1 h2 ho), nI_clamp (by omega)]
theorem ct_so_out {C : ct_T} {A : Nat → Int32} {id : Int32} (h : id < 1 ∨ nI C.1 < id) : ct_so C A id = 0 := by
  unfold ct_so; rw [if_pos h]
/-- the end of an object -/
def ct_ev (C : ct_T) (id g t : Int32) : Int32 := if id < 1 ∨ nI C.1 < id then -2 else if g = 1 then -3 else if ¬ C.2.2.2.1 id.toNatClampNeg = 0 then -6 else if t < C.2.2.1 id.toNatClampNeg then -7 else 0
theorem ev_abs {C : ct_T} {id g t : Int32} (h : id < 1 ∨ nI C.1 < id) : (-2 : Int32) = ct_ev C id g t := by unfold ct_ev; rw [if_pos h]
section EV
variable {C : ct_T} {j : Nat} {g t : Int32} (h1 : 1 ≤ j) (h2 : j ≤ C.1) (ho : C.1 ≤ 12)
theorem ev_gone (h : g = 1) : 1 ≤ j → j ≤ C.1 → C.1 ≤ 12 → (-3 : Int32) = ct_ev C (nI j) g t := fun h1 h2 ho => by
  unfold ct_ev; rw [if_neg (ru_in h1 h2 ho), if_pos h]
theorem ev_held (h : ¬ g = 1) (h3 : ¬ C.2.2.2.1 j = 0) : 1 ≤ j → j ≤ C.1 → C.1 ≤ 12 → (-6 : Int32) = ct_ev C (nI j) g t := fun h1 h2 ho => by
  unfold ct_ev; rw [if_neg (ru_in h1 h2 ho), nI_clamp (by omega), if_neg h, if_pos h3]
theorem ev_early (h : ¬ g = 1) (h3 : C.2.2.2.1 j = 0) (h4 : t < C.2.2.1 j) : 1 ≤ j → j ≤ C.1 → C.1 ≤ 12 → (-7 : Int32) = ct_ev C (nI j) g t := fun h1 h2 ho => by
  unfold ct_ev; rw [if_neg (ru_in h1 h2 ho), nI_clamp (by omega), if_neg h, if_neg (fun q => q h3), if_pos h4]
theorem ev_ok (h : ¬ g = 1) (h3 : C.2.2.2.1 j = 0) (h4 : ¬ t < C.2.2.1 j) : 1 ≤ j → j ≤ C.1 → C.1 ≤ 12 → (0 : Int32) = ct_ev C (nI j) g t := fun h1 h2 ho => by
  unfold ct_ev; rw [if_neg (ru_in h1 h2 ho), nI_clamp (by omega), if_neg h, if_neg (fun q => q h3), if_neg h4]
end EV
/-- the end of an object is the rules for kinds 5 and 6 -/
theorem ev_ru5 {C : ct_T} (ho : C.1 ≤ 12) {id v t g : Int32} (hg : g = if ct_so C C.2.1 id = 1 then 0 else 1) : ct_ev C id g t = ct_ruC C 5 id v t := by
  unfold ct_ruC
  by_cases hi : id < 1 ∨ nI C.1 < id
  · rw [← ev_abs hi, ← rue_abs (Or.inl rfl) hi]
  · obtain ⟨j, j1, j2, rfl⟩ := ct_id (by omega) (fun q => hi (Or.inl q)) (fun q => hi (Or.inr q))
    rw [ct_so_in j1 j2 ho] at hg
    by_cases hS : C.2.1 j = 1
    · rw [if_pos hS] at hg
      subst hg
      have hn : ¬ (((5 : Int32) = 6 ∧ C.2.1 j = 3) ∨ ((5 : Int32) ≠ 6 ∧ C.2.1 j ≠ 1)) := ru_live hS (by decide)
      by_cases hG : C.2.2.2.1 j = 0
      · by_cases hD : t < C.2.2.1 j
        · rw [← ev_early (by decide) hG hD j1 j2 ho, ← rue_early (Or.inl rfl) j1 j2 ho hn hG hD]
        · rw [← ev_ok (by decide) hG hD j1 j2 ho, ← rue_ok (Or.inl rfl) j1 j2 ho hn hG hD]
      · rw [← ev_held (by decide) hG j1 j2 ho, ← rue_held (Or.inl rfl) j1 j2 ho hn hG]
    · rw [if_neg hS] at hg
      rw [← ev_gone hg j1 j2 ho, ← rue_gone (Or.inl rfl) j1 j2 ho (Or.inr ⟨by decide, hS⟩)]
theorem ev_ru6 {C : ct_T} (ho : C.1 ≤ 12) {id v t g : Int32} (hg : g = if ct_so C C.2.1 id = 3 then 1 else 0) : ct_ev C id g t = ct_ruC C 6 id v t := by
  unfold ct_ruC
  by_cases hi : id < 1 ∨ nI C.1 < id
  · rw [← ev_abs hi, ← rue_abs (Or.inr rfl) hi]
  · obtain ⟨j, j1, j2, rfl⟩ := ct_id (by omega) (fun q => hi (Or.inl q)) (fun q => hi (Or.inr q))
    rw [ct_so_in j1 j2 ho] at hg
    by_cases hS : C.2.1 j = 3
    · rw [if_pos hS] at hg
      rw [← ev_gone hg j1 j2 ho, ← rue_gone (Or.inr rfl) j1 j2 ho (Or.inl ⟨rfl, hS⟩)]
    · rw [if_neg hS] at hg
      subst hg
      have hn : ¬ (((6 : Int32) = 6 ∧ C.2.1 j = 3) ∨ ((6 : Int32) ≠ 6 ∧ C.2.1 j ≠ 1)) := by
        rintro (q | q)
        · exact hS q.2
        · exact q.1 rfl
      by_cases hG : C.2.2.2.1 j = 0
      · by_cases hD : t < C.2.2.1 j
        · rw [← ev_early (by decide) hG hD j1 j2 ho, ← rue_early (Or.inr rfl) j1 j2 ho hn hG hD]
        · rw [← ev_ok (by decide) hG hD j1 j2 ho, ← rue_ok (Or.inr rfl) j1 j2 ho hn hG hD]
      · rw [← ev_held (by decide) hG j1 j2 ho, ← rue_held (Or.inr rfl) j1 j2 ho hn hG]
/-- agreeing pictures -/
theorem ce_m {C C' : ct_T} (h : ct_eq C C') : ct_eqm C.1 C.2.1 C.2.2.1 C.2.2.2.1 C' := ⟨h.1, fun j h1 h2 => ⟨(h.2 j h1 h2).1, (h.2 j h1 h2).2.1, (h.2 j h1 h2).2.2.1⟩⟩
theorem ce_ru {C C' : ct_T} (h : ct_eq C C') (ho : C.1 ≤ 12) (kind id v t : Int32) : ct_ruC C kind id v t = ct_ruC C' kind id v t := ct_ru_eqm (ce_m h) (by omega) kind id v t
theorem ce_12 {f : Nat → Int32} {k : Int32} {n : Nat} {C : ct_T} (h : ct_eq C (ct_st f n)) (ho : ∀ r, r < n → ct_ok f k r) : C.1 ≤ 12 := by
  rw [h.1]; exact (ct_iv_n n ho).1
theorem ce_G {f : Nat → Int32} {k : Int32} {n : Nat} {C : ct_T} (h : ct_eq C (ct_st f n)) (ho : ∀ r, r < n → ct_ok f k r) : ∀ j, 1 ≤ j → j ≤ C.1 → ∃ g, g < 256 ∧ C.2.2.2.1 j = nI g := fun j h1 h2 => by
  rw [h.1] at h2
  rw [(h.2 j h1 h2).2.2.1]
  exact ((ct_iv_n n ho).2.1 j h1 h2).1
theorem ce_ap {C C' : ct_T} (h : ct_eq C C') (r : Nat) {kind id v : Int32} (hi : kind ≠ 1 → ∃ j, 1 ≤ j ∧ j ≤ C'.1 ∧ id = nI j) (ho : C'.1 ≤ 12) : ct_eq (ct_ap C r kind id v) (ct_ap C' r kind id v) := by
  obtain ⟨ob, S, D, G, P⟩ := C
  obtain ⟨ob', S', D', G', P'⟩ := C'
  obtain ⟨e, h⟩ := h
  simp only at e h hi ho
  subst e
  unfold ct_ap
  simp only
  have up : ∀ (X X' : Nat → Int32) (x x' : Int32) (i j : Nat), x = x' → (j ≠ i → X j = X' j) → upd X i x j = upd X' i x' j := by
    intro X X' x x' i j ex hx
    unfold upd
    by_cases hj : j = i
    · rw [if_pos hj, if_pos hj, ex]
    · rw [if_neg hj, if_neg hj, hx hj]
  by_cases k1 : kind = 1
  · rw [if_pos k1, if_pos k1]
    refine ⟨rfl, fun j h1 h2 => ?_⟩
    simp only at h2 ⊢
    refine ⟨up _ _ _ _ _ _ rfl (fun q => (h j h1 (by omega)).1), up _ _ _ _ _ _ rfl (fun q => (h j h1 (by omega)).2.1), up _ _ _ _ _ _ rfl (fun q => (h j h1 (by omega)).2.2.1), up _ _ _ _ _ _ rfl (fun q => (h j h1 (by omega)).2.2.2)⟩
  · rw [if_neg k1, if_neg k1]
    obtain ⟨i, i1, i2, rfl⟩ := hi k1
    rw [nI_clamp (by omega)]
    have hG := (h i i1 i2).2.2.1
    by_cases k2 : kind = 2
    · rw [if_pos k2, if_pos k2]
      exact ⟨rfl, fun j h1 h2 => ⟨(h j h1 h2).1, up _ _ _ _ _ _ rfl (fun _ => (h j h1 h2).2.1), (h j h1 h2).2.2⟩⟩
    · rw [if_neg k2, if_neg k2]
      by_cases k3 : kind = 3
      · rw [if_pos k3, if_pos k3]
        exact ⟨rfl, fun j h1 h2 => ⟨(h j h1 h2).1, (h j h1 h2).2.1, up _ _ _ _ _ _ (by rw [hG]) (fun _ => (h j h1 h2).2.2.1), (h j h1 h2).2.2.2⟩⟩
      · rw [if_neg k3, if_neg k3]
        by_cases k4 : kind = 4
        · rw [if_pos k4, if_pos k4]
          exact ⟨rfl, fun j h1 h2 => ⟨(h j h1 h2).1, (h j h1 h2).2.1, up _ _ _ _ _ _ (by rw [hG]) (fun _ => (h j h1 h2).2.2.1), (h j h1 h2).2.2.2⟩⟩
        · rw [if_neg k4, if_neg k4]
          exact ⟨rfl, fun j h1 h2 => ⟨up _ _ _ _ _ _ rfl (fun _ => (h j h1 h2).1), (h j h1 h2).2⟩⟩
end
section
theorem sw_1_6 (x : Int32) : x = 1 ∨ x = 2 ∨ x = 3 ∨ x = 4 ∨ x = 5 ∨ x = 6 ∨ (x.toInt < 1 ∨ 6 < x.toInt) := by
  by_cases h : x.toInt < 1 ∨ 6 < x.toInt
  · exact Or.inr (Or.inr (Or.inr (Or.inr (Or.inr (Or.inr (h))))))
  · have q : x.toInt = 1 ∨ x.toInt = 2 ∨ x.toInt = 3 ∨ x.toInt = 4 ∨ x.toInt = 5 ∨ x.toInt = 6 := by omega
    rcases q with q | q | q | q | q | q
    · exact Or.inl (Int32.toInt_inj.mp (q.trans (by decide)))
    · exact Or.inr (Or.inl (Int32.toInt_inj.mp (q.trans (by decide))))
    · exact Or.inr (Or.inr (Or.inl (Int32.toInt_inj.mp (q.trans (by decide)))))
    · exact Or.inr (Or.inr (Or.inr (Or.inl (Int32.toInt_inj.mp (q.trans (by decide))))))
    · exact Or.inr (Or.inr (Or.inr (Or.inr (Or.inl (Int32.toInt_inj.mp (q.trans (by decide)))))))
    · exact Or.inr (Or.inr (Or.inr (Or.inr (Or.inr (Or.inl (Int32.toInt_inj.mp (q.trans (by decide))))))))

theorem sw_2_6 (x : Int32) : x = 2 ∨ x = 3 ∨ x = 4 ∨ x = 5 ∨ x = 6 ∨ (x.toInt < 2 ∨ 6 < x.toInt) := by
  by_cases h : x.toInt < 2 ∨ 6 < x.toInt
  · exact Or.inr (Or.inr (Or.inr (Or.inr (Or.inr (h)))))
  · have q : x.toInt = 2 ∨ x.toInt = 3 ∨ x.toInt = 4 ∨ x.toInt = 5 ∨ x.toInt = 6 := by omega
    rcases q with q | q | q | q | q
    · exact Or.inl (Int32.toInt_inj.mp (q.trans (by decide)))
    · exact Or.inr (Or.inl (Int32.toInt_inj.mp (q.trans (by decide))))
    · exact Or.inr (Or.inr (Or.inl (Int32.toInt_inj.mp (q.trans (by decide)))))
    · exact Or.inr (Or.inr (Or.inr (Or.inl (Int32.toInt_inj.mp (q.trans (by decide))))))
    · exact Or.inr (Or.inr (Or.inr (Or.inr (Or.inl (Int32.toInt_inj.mp (q.trans (by decide)))))))

theorem sw_0_2 (x : Int32) : x = 0 ∨ x = 1 ∨ x = 2 ∨ (x.toInt < 0 ∨ 2 < x.toInt) := by
  by_cases h : x.toInt < 0 ∨ 2 < x.toInt
  · exact Or.inr (Or.inr (Or.inr (h)))
  · have q : x.toInt = 0 ∨ x.toInt = 1 ∨ x.toInt = 2 := by omega
    rcases q with q | q | q
    · exact Or.inl (Int32.toInt_inj.mp (q.trans (by decide)))
    · exact Or.inr (Or.inl (Int32.toInt_inj.mp (q.trans (by decide))))
    · exact Or.inr (Or.inr (Or.inl (Int32.toInt_inj.mp (q.trans (by decide)))))

theorem dn_C_nextId_0 : decode cn_C_nextId 0 = .ok (.aload_n 0, 1) := by decide +kernel
theorem dn_C_nextId_1 : decode cn_C_nextId 1 = .ok (.getfield 24, 3) := by decide +kernel
theorem dn_C_nextId_4 : decode cn_C_nextId 4 = .ok (.iconst 1, 1) := by decide +kernel
theorem dn_C_nextId_5 : decode cn_C_nextId 5 = .ok (.iadd, 1) := by decide +kernel
theorem dn_C_nextId_6 : decode cn_C_nextId 6 = .ok (.ireturn, 1) := by decide +kernel
theorem dn_C_recordCount_0 : decode cn_C_recordCount 0 = .ok (.aload_n 0, 1) := by decide +kernel
theorem dn_C_recordCount_1 : decode cn_C_recordCount 1 = .ok (.getfield 28, 3) := by decide +kernel
theorem dn_C_recordCount_4 : decode cn_C_recordCount 4 = .ok (.ireturn, 1) := by decide +kernel
theorem dn_C_isThere_0 : decode cn_C_isThere 0 = .ok (.iconst 1, 1) := by decide +kernel
theorem dn_C_isThere_1 : decode cn_C_isThere 1 = .ok (.iload_n 1, 1) := by decide +kernel
theorem dn_C_isThere_2 : decode cn_C_isThere 2 = .ok (.if_icmp .gt 15, 3) := by decide +kernel
theorem dn_C_isThere_5 : decode cn_C_isThere 5 = .ok (.iload_n 1, 1) := by decide +kernel
theorem dn_C_isThere_6 : decode cn_C_isThere 6 = .ok (.aload_n 0, 1) := by decide +kernel
theorem dn_C_isThere_7 : decode cn_C_isThere 7 = .ok (.getfield 24, 3) := by decide +kernel
theorem dn_C_isThere_10 : decode cn_C_isThere 10 = .ok (.if_icmp .gt 7, 3) := by decide +kernel
theorem dn_C_isThere_13 : decode cn_C_isThere 13 = .ok (.iconst 1, 1) := by decide +kernel
theorem dn_C_isThere_14 : decode cn_C_isThere 14 = .ok (.goto 4, 3) := by decide +kernel
theorem dn_C_isThere_17 : decode cn_C_isThere 17 = .ok (.iconst 0, 1) := by decide +kernel
theorem dn_C_isThere_18 : decode cn_C_isThere 18 = .ok (.ireturn, 1) := by decide +kernel
theorem dn_C_stateOf_0 : decode cn_C_stateOf 0 = .ok (.aload_n 0, 1) := by decide +kernel
theorem dn_C_stateOf_1 : decode cn_C_stateOf 1 = .ok (.iload_n 1, 1) := by decide +kernel
theorem dn_C_stateOf_2 : decode cn_C_stateOf 2 = .ok (.invokevirtual 35, 3) := by decide +kernel
theorem dn_C_stateOf_5 : decode cn_C_stateOf 5 = .ok (.ifCond .eq 12, 3) := by decide +kernel
theorem dn_C_stateOf_8 : decode cn_C_stateOf 8 = .ok (.aload_n 0, 1) := by decide +kernel
theorem dn_C_stateOf_9 : decode cn_C_stateOf 9 = .ok (.getfield 9, 3) := by decide +kernel
theorem dn_C_stateOf_12 : decode cn_C_stateOf 12 = .ok (.iload_n 1, 1) := by decide +kernel
theorem dn_C_stateOf_13 : decode cn_C_stateOf 13 = .ok (.iaload, 1) := by decide +kernel
theorem dn_C_stateOf_14 : decode cn_C_stateOf 14 = .ok (.goto 4, 3) := by decide +kernel
theorem dn_C_stateOf_17 : decode cn_C_stateOf 17 = .ok (.iconst 0, 1) := by decide +kernel
theorem dn_C_stateOf_18 : decode cn_C_stateOf 18 = .ok (.ireturn, 1) := by decide +kernel
theorem dn_C_dateOf_0 : decode cn_C_dateOf 0 = .ok (.aload_n 0, 1) := by decide +kernel
theorem dn_C_dateOf_1 : decode cn_C_dateOf 1 = .ok (.iload_n 1, 1) := by decide +kernel
theorem dn_C_dateOf_2 : decode cn_C_dateOf 2 = .ok (.invokevirtual 35, 3) := by decide +kernel
theorem dn_C_dateOf_5 : decode cn_C_dateOf 5 = .ok (.ifCond .eq 12, 3) := by decide +kernel
theorem dn_C_dateOf_8 : decode cn_C_dateOf 8 = .ok (.aload_n 0, 1) := by decide +kernel
theorem dn_C_dateOf_9 : decode cn_C_dateOf 9 = .ok (.getfield 15, 3) := by decide +kernel
theorem dn_C_dateOf_12 : decode cn_C_dateOf 12 = .ok (.iload_n 1, 1) := by decide +kernel
theorem dn_C_dateOf_13 : decode cn_C_dateOf 13 = .ok (.iaload, 1) := by decide +kernel
theorem dn_C_dateOf_14 : decode cn_C_dateOf 14 = .ok (.goto 4, 3) := by decide +kernel
theorem dn_C_dateOf_17 : decode cn_C_dateOf 17 = .ok (.iconst 0, 1) := by decide +kernel
theorem dn_C_dateOf_18 : decode cn_C_dateOf 18 = .ok (.ireturn, 1) := by decide +kernel
theorem dn_C_holdsOf_0 : decode cn_C_holdsOf 0 = .ok (.aload_n 0, 1) := by decide +kernel
theorem dn_C_holdsOf_1 : decode cn_C_holdsOf 1 = .ok (.iload_n 1, 1) := by decide +kernel
theorem dn_C_holdsOf_2 : decode cn_C_holdsOf 2 = .ok (.invokevirtual 35, 3) := by decide +kernel
theorem dn_C_holdsOf_5 : decode cn_C_holdsOf 5 = .ok (.ifCond .eq 12, 3) := by decide +kernel
theorem dn_C_holdsOf_8 : decode cn_C_holdsOf 8 = .ok (.aload_n 0, 1) := by decide +kernel
theorem dn_C_holdsOf_9 : decode cn_C_holdsOf 9 = .ok (.getfield 18, 3) := by decide +kernel
theorem dn_C_holdsOf_12 : decode cn_C_holdsOf 12 = .ok (.iload_n 1, 1) := by decide +kernel
theorem dn_C_holdsOf_13 : decode cn_C_holdsOf 13 = .ok (.iaload, 1) := by decide +kernel
theorem dn_C_holdsOf_14 : decode cn_C_holdsOf 14 = .ok (.goto 4, 3) := by decide +kernel
theorem dn_C_holdsOf_17 : decode cn_C_holdsOf 17 = .ok (.iconst 0, 1) := by decide +kernel
theorem dn_C_holdsOf_18 : decode cn_C_holdsOf 18 = .ok (.ireturn, 1) := by decide +kernel
theorem dn_C_putRecordOf_0 : decode cn_C_putRecordOf 0 = .ok (.aload_n 0, 1) := by decide +kernel
theorem dn_C_putRecordOf_1 : decode cn_C_putRecordOf 1 = .ok (.iload_n 1, 1) := by decide +kernel
theorem dn_C_putRecordOf_2 : decode cn_C_putRecordOf 2 = .ok (.invokevirtual 35, 3) := by decide +kernel
theorem dn_C_putRecordOf_5 : decode cn_C_putRecordOf 5 = .ok (.ifCond .eq 12, 3) := by decide +kernel
theorem dn_C_putRecordOf_8 : decode cn_C_putRecordOf 8 = .ok (.aload_n 0, 1) := by decide +kernel
theorem dn_C_putRecordOf_9 : decode cn_C_putRecordOf 9 = .ok (.getfield 21, 3) := by decide +kernel
theorem dn_C_putRecordOf_12 : decode cn_C_putRecordOf 12 = .ok (.iload_n 1, 1) := by decide +kernel
theorem dn_C_putRecordOf_13 : decode cn_C_putRecordOf 13 = .ok (.iaload, 1) := by decide +kernel
theorem dn_C_putRecordOf_14 : decode cn_C_putRecordOf 14 = .ok (.goto 4, 3) := by decide +kernel
theorem dn_C_putRecordOf_17 : decode cn_C_putRecordOf 17 = .ok (.iconst 0, 1) := by decide +kernel
theorem dn_C_putRecordOf_18 : decode cn_C_putRecordOf 18 = .ok (.ireturn, 1) := by decide +kernel
theorem dn_C_isLive_0 : decode cn_C_isLive 0 = .ok (.aload_n 0, 1) := by decide +kernel
theorem dn_C_isLive_1 : decode cn_C_isLive 1 = .ok (.iload_n 1, 1) := by decide +kernel
theorem dn_C_isLive_2 : decode cn_C_isLive 2 = .ok (.invokevirtual 31, 3) := by decide +kernel
theorem dn_C_isLive_5 : decode cn_C_isLive 5 = .ok (.iconst 1, 1) := by decide +kernel
theorem dn_C_isLive_6 : decode cn_C_isLive 6 = .ok (.if_icmp .ne 7, 3) := by decide +kernel
theorem dn_C_isLive_9 : decode cn_C_isLive 9 = .ok (.iconst 1, 1) := by decide +kernel
theorem dn_C_isLive_10 : decode cn_C_isLive 10 = .ok (.goto 4, 3) := by decide +kernel
theorem dn_C_isLive_13 : decode cn_C_isLive 13 = .ok (.iconst 0, 1) := by decide +kernel
theorem dn_C_isLive_14 : decode cn_C_isLive 14 = .ok (.ireturn, 1) := by decide +kernel
theorem dn_C_mayKeepKey_0 : decode cn_C_mayKeepKey 0 = .ok (.aload_n 0, 1) := by decide +kernel
theorem dn_C_mayKeepKey_1 : decode cn_C_mayKeepKey 1 = .ok (.iload_n 1, 1) := by decide +kernel
theorem dn_C_mayKeepKey_2 : decode cn_C_mayKeepKey 2 = .ok (.invokevirtual 35, 3) := by decide +kernel
theorem dn_C_mayKeepKey_5 : decode cn_C_mayKeepKey 5 = .ok (.ifCond .eq 16, 3) := by decide +kernel
theorem dn_C_mayKeepKey_8 : decode cn_C_mayKeepKey 8 = .ok (.aload_n 0, 1) := by decide +kernel
theorem dn_C_mayKeepKey_9 : decode cn_C_mayKeepKey 9 = .ok (.iload_n 1, 1) := by decide +kernel
theorem dn_C_mayKeepKey_10 : decode cn_C_mayKeepKey 10 = .ok (.invokevirtual 31, 3) := by decide +kernel
theorem dn_C_mayKeepKey_13 : decode cn_C_mayKeepKey 13 = .ok (.iconst 3, 1) := by decide +kernel
theorem dn_C_mayKeepKey_14 : decode cn_C_mayKeepKey 14 = .ok (.if_icmp .eq 7, 3) := by decide +kernel
theorem dn_C_mayKeepKey_17 : decode cn_C_mayKeepKey 17 = .ok (.iconst 1, 1) := by decide +kernel
theorem dn_C_mayKeepKey_18 : decode cn_C_mayKeepKey 18 = .ok (.goto 4, 3) := by decide +kernel
theorem dn_C_mayKeepKey_21 : decode cn_C_mayKeepKey 21 = .ok (.iconst 0, 1) := by decide +kernel
theorem dn_C_mayKeepKey_22 : decode cn_C_mayKeepKey 22 = .ok (.ireturn, 1) := by decide +kernel
theorem dn_C_isDate_0 : decode cn_C_isDate 0 = .ok (.iconst 0, 1) := by decide +kernel
theorem dn_C_isDate_1 : decode cn_C_isDate 1 = .ok (.iload_n 0, 1) := by decide +kernel
theorem dn_C_isDate_2 : decode cn_C_isDate 2 = .ok (.if_icmp .gt 13, 3) := by decide +kernel
theorem dn_C_isDate_5 : decode cn_C_isDate 5 = .ok (.iload_n 0, 1) := by decide +kernel
theorem dn_C_isDate_6 : decode cn_C_isDate 6 = .ok (.ldc 61, 2) := by decide +kernel
theorem dn_C_isDate_8 : decode cn_C_isDate 8 = .ok (.if_icmp .gt 7, 3) := by decide +kernel
theorem dn_C_isDate_11 : decode cn_C_isDate 11 = .ok (.iconst 1, 1) := by decide +kernel
theorem dn_C_isDate_12 : decode cn_C_isDate 12 = .ok (.goto 4, 3) := by decide +kernel
theorem dn_C_isDate_15 : decode cn_C_isDate 15 = .ok (.iconst 0, 1) := by decide +kernel
theorem dn_C_isDate_16 : decode cn_C_isDate 16 = .ok (.ireturn, 1) := by decide +kernel
theorem dn_C_putVerdict_0 : decode cn_C_putVerdict 0 = .ok (.iload_n 1, 1) := by decide +kernel
theorem dn_C_putVerdict_1 : decode cn_C_putVerdict 1 = .ok (.invokestatic 58, 3) := by decide +kernel
theorem dn_C_putVerdict_4 : decode cn_C_putVerdict 4 = .ok (.ifCond .ne 5, 3) := by decide +kernel
theorem dn_C_putVerdict_7 : decode cn_C_putVerdict 7 = .ok (.iconst (-1), 1) := by decide +kernel
theorem dn_C_putVerdict_8 : decode cn_C_putVerdict 8 = .ok (.ireturn, 1) := by decide +kernel
theorem dn_C_putVerdict_9 : decode cn_C_putVerdict 9 = .ok (.iload_n 1, 1) := by decide +kernel
theorem dn_C_putVerdict_10 : decode cn_C_putVerdict 10 = .ok (.iload_n 2, 1) := by decide +kernel
theorem dn_C_putVerdict_11 : decode cn_C_putVerdict 11 = .ok (.if_icmp .ge 6, 3) := by decide +kernel
theorem dn_C_putVerdict_14 : decode cn_C_putVerdict 14 = .ok (.bipush (-4), 2) := by decide +kernel
theorem dn_C_putVerdict_16 : decode cn_C_putVerdict 16 = .ok (.ireturn, 1) := by decide +kernel
theorem dn_C_putVerdict_17 : decode cn_C_putVerdict 17 = .ok (.aload_n 0, 1) := by decide +kernel
theorem dn_C_putVerdict_18 : decode cn_C_putVerdict 18 = .ok (.getfield 24, 3) := by decide +kernel
theorem dn_C_putVerdict_21 : decode cn_C_putVerdict 21 = .ok (.bipush 12, 2) := by decide +kernel
theorem dn_C_putVerdict_23 : decode cn_C_putVerdict 23 = .ok (.if_icmp .lt 8, 3) := by decide +kernel
theorem dn_C_putVerdict_26 : decode cn_C_putVerdict 26 = .ok (.bipush (-8), 2) := by decide +kernel
theorem dn_C_putVerdict_28 : decode cn_C_putVerdict 28 = .ok (.goto 4, 3) := by decide +kernel
theorem dn_C_putVerdict_31 : decode cn_C_putVerdict 31 = .ok (.iconst 0, 1) := by decide +kernel
theorem dn_C_putVerdict_32 : decode cn_C_putVerdict 32 = .ok (.ireturn, 1) := by decide +kernel
theorem dn_C_extendVerdict_0 : decode cn_C_extendVerdict 0 = .ok (.iload_n 2, 1) := by decide +kernel
theorem dn_C_extendVerdict_1 : decode cn_C_extendVerdict 1 = .ok (.invokestatic 58, 3) := by decide +kernel
theorem dn_C_extendVerdict_4 : decode cn_C_extendVerdict 4 = .ok (.ifCond .ne 5, 3) := by decide +kernel
theorem dn_C_extendVerdict_7 : decode cn_C_extendVerdict 7 = .ok (.iconst (-1), 1) := by decide +kernel
theorem dn_C_extendVerdict_8 : decode cn_C_extendVerdict 8 = .ok (.ireturn, 1) := by decide +kernel
theorem dn_C_extendVerdict_9 : decode cn_C_extendVerdict 9 = .ok (.aload_n 0, 1) := by decide +kernel
theorem dn_C_extendVerdict_10 : decode cn_C_extendVerdict 10 = .ok (.iload_n 1, 1) := by decide +kernel
theorem dn_C_extendVerdict_11 : decode cn_C_extendVerdict 11 = .ok (.invokevirtual 35, 3) := by decide +kernel
theorem dn_C_extendVerdict_14 : decode cn_C_extendVerdict 14 = .ok (.ifCond .ne 6, 3) := by decide +kernel
theorem dn_C_extendVerdict_17 : decode cn_C_extendVerdict 17 = .ok (.bipush (-2), 2) := by decide +kernel
theorem dn_C_extendVerdict_19 : decode cn_C_extendVerdict 19 = .ok (.ireturn, 1) := by decide +kernel
theorem dn_C_extendVerdict_20 : decode cn_C_extendVerdict 20 = .ok (.aload_n 0, 1) := by decide +kernel
theorem dn_C_extendVerdict_21 : decode cn_C_extendVerdict 21 = .ok (.getfield 9, 3) := by decide +kernel
theorem dn_C_extendVerdict_24 : decode cn_C_extendVerdict 24 = .ok (.iload_n 1, 1) := by decide +kernel
theorem dn_C_extendVerdict_25 : decode cn_C_extendVerdict 25 = .ok (.iaload, 1) := by decide +kernel
theorem dn_C_extendVerdict_26 : decode cn_C_extendVerdict 26 = .ok (.iconst 1, 1) := by decide +kernel
theorem dn_C_extendVerdict_27 : decode cn_C_extendVerdict 27 = .ok (.if_icmp .eq 6, 3) := by decide +kernel
theorem dn_C_extendVerdict_30 : decode cn_C_extendVerdict 30 = .ok (.bipush (-3), 2) := by decide +kernel
theorem dn_C_extendVerdict_32 : decode cn_C_extendVerdict 32 = .ok (.ireturn, 1) := by decide +kernel
theorem dn_C_extendVerdict_33 : decode cn_C_extendVerdict 33 = .ok (.iload_n 2, 1) := by decide +kernel
theorem dn_C_extendVerdict_34 : decode cn_C_extendVerdict 34 = .ok (.aload_n 0, 1) := by decide +kernel
theorem dn_C_extendVerdict_35 : decode cn_C_extendVerdict 35 = .ok (.getfield 15, 3) := by decide +kernel
theorem dn_C_extendVerdict_38 : decode cn_C_extendVerdict 38 = .ok (.iload_n 1, 1) := by decide +kernel
theorem dn_C_extendVerdict_39 : decode cn_C_extendVerdict 39 = .ok (.iaload, 1) := by decide +kernel
theorem dn_C_extendVerdict_40 : decode cn_C_extendVerdict 40 = .ok (.if_icmp .gt 8, 3) := by decide +kernel
theorem dn_C_extendVerdict_43 : decode cn_C_extendVerdict 43 = .ok (.bipush (-4), 2) := by decide +kernel
theorem dn_C_extendVerdict_45 : decode cn_C_extendVerdict 45 = .ok (.goto 4, 3) := by decide +kernel
theorem dn_C_extendVerdict_48 : decode cn_C_extendVerdict 48 = .ok (.iconst 0, 1) := by decide +kernel
theorem dn_C_extendVerdict_49 : decode cn_C_extendVerdict 49 = .ok (.ireturn, 1) := by decide +kernel

set_option maxRecDepth 100000 in
set_option maxHeartbeats 4000000 in
theorem c_C_nextId (l : Launch) (dC : Nat → ClassId) (dI : Nat → Nat → Nat) (cI cZ : ClassId) (a0 a1 a2 a3 a4 : Nat) (K : ct_T) (en : Nat) (ho : K.1 ≤ 12)  : gc_I l yn_C_nextId (gw yn_C_nextId cn_C_nextId 1 (some .int)) (rm_ 0 0) (dC, dI) vwCl (gT cI cZ) [.ref a0] [(a0, .inr (0, [.ref a1, .ref a2, .ref a3, .ref a4, .int (nI K.1), .int (nI en)])), (a1, .inl (cI, 13, .inl K.2.1)), (a2, .inl (cI, 13, .inl K.2.2.1)), (a3, .inl (cI, 13, .inl K.2.2.2.1)), (a4, .inl (cI, 13, .inl K.2.2.2.2))] (fun r (_ : Unit) => r = nI (K.1 + 1)) (fun _ => [(a0, .inr (0, [.ref a1, .ref a2, .ref a3, .ref a4, .int (nI K.1), .int (nI en)])), (a1, .inl (cI, 13, .inl K.2.1)), (a2, .inl (cI, 13, .inl K.2.2.1)), (a3, .inl (cI, 13, .inl K.2.2.2.1)), (a4, .inl (cI, 13, .inl K.2.2.2.2))]) := by
  refine gc_I_of (cc := cn_C_nextId) (maxL := 1) (ty := .int) (by decide) rfl (Nat.le_of_ble_eq_true rfl) ?_
  intro pp ee ss mm ar be me cd A Q ls H0 H locs hx hb hml hown hts hK hP hD hS hA hl hret
  have hw : ∀ w ∈ gw_T, w.before ar ss = true := fun w h => hts w (List.mem_cons_of_mem _ h)
  have hl : lv_has ls 1 [(0, .ref a0)] := hl
  refine lv_aload_n hx hb dn_C_nextId_0 rfl (lv_at hl 0 rfl) ?_
  refine va_get (D := (dC, dI)) (ci := 0) (v := .int (nI K.1)) (C := rn_C) (T := tn_C) (N := 6) hx hb hw ml_C hown hK hP 0 rfl rfl 4 (by decide) (hw _ mw_41) (fun _ h9 => h9) rfl dn_C_nextId_1 ?_
  refine lv_iconst (v := 1) hx hb dn_C_nextId_4 (by decide) ?_
  refine gr_addN hx hb K.1 1 rfl rfl dn_C_nextId_5 ?_
  exact hret (nI (K.1 + 1)) () _ _ _ _ rfl rfl hP hD hS dn_C_nextId_6

set_option maxRecDepth 100000 in
set_option maxHeartbeats 4000000 in
theorem c_C_recordCount (l : Launch) (dC : Nat → ClassId) (dI : Nat → Nat → Nat) (cI cZ : ClassId) (a0 a1 a2 a3 a4 : Nat) (K : ct_T) (en : Nat) (ho : K.1 ≤ 12)  : gc_I l yn_C_recordCount (gw yn_C_recordCount cn_C_recordCount 1 (some .int)) (rm_ 0 0) (dC, dI) vwCl (gT cI cZ) [.ref a0] [(a0, .inr (0, [.ref a1, .ref a2, .ref a3, .ref a4, .int (nI K.1), .int (nI en)])), (a1, .inl (cI, 13, .inl K.2.1)), (a2, .inl (cI, 13, .inl K.2.2.1)), (a3, .inl (cI, 13, .inl K.2.2.2.1)), (a4, .inl (cI, 13, .inl K.2.2.2.2))] (fun r (_ : Unit) => r = nI en) (fun _ => [(a0, .inr (0, [.ref a1, .ref a2, .ref a3, .ref a4, .int (nI K.1), .int (nI en)])), (a1, .inl (cI, 13, .inl K.2.1)), (a2, .inl (cI, 13, .inl K.2.2.1)), (a3, .inl (cI, 13, .inl K.2.2.2.1)), (a4, .inl (cI, 13, .inl K.2.2.2.2))]) := by
  refine gc_I_of (cc := cn_C_recordCount) (maxL := 1) (ty := .int) (by decide) rfl (Nat.le_of_ble_eq_true rfl) ?_
  intro pp ee ss mm ar be me cd A Q ls H0 H locs hx hb hml hown hts hK hP hD hS hA hl hret
  have hw : ∀ w ∈ gw_T, w.before ar ss = true := fun w h => hts w (List.mem_cons_of_mem _ h)
  have hl : lv_has ls 1 [(0, .ref a0)] := hl
  refine lv_aload_n hx hb dn_C_recordCount_0 rfl (lv_at hl 0 rfl) ?_
  refine va_get (D := (dC, dI)) (ci := 0) (v := .int (nI en)) (C := rn_C) (T := tn_C) (N := 6) hx hb hw ml_C hown hK hP 0 rfl rfl 5 (by decide) (hw _ mw_42) (fun _ h9 => h9) rfl dn_C_recordCount_1 ?_
  exact hret (nI en) () _ _ _ _ rfl rfl hP hD hS dn_C_recordCount_4

set_option maxRecDepth 100000 in
set_option maxHeartbeats 4000000 in
theorem c_C_isThere (l : Launch) (dC : Nat → ClassId) (dI : Nat → Nat → Nat) (cI cZ : ClassId) (a0 a1 a2 a3 a4 : Nat) (K : ct_T) (en : Nat) (ho : K.1 ≤ 12) (id : Int32) : gc_I l yn_C_isThere (gw yn_C_isThere cn_C_isThere 2 (some .boolean)) (rm_ 0 0) (dC, dI) vwCl (gT cI cZ) [.ref a0, .int id] [(a0, .inr (0, [.ref a1, .ref a2, .ref a3, .ref a4, .int (nI K.1), .int (nI en)])), (a1, .inl (cI, 13, .inl K.2.1)), (a2, .inl (cI, 13, .inl K.2.2.1)), (a3, .inl (cI, 13, .inl K.2.2.2.1)), (a4, .inl (cI, 13, .inl K.2.2.2.2))] (fun r (_ : Unit) => (r = 1 ∧ ∃ j, 1 ≤ j ∧ j ≤ K.1 ∧ id = nI j) ∨ (r = 0 ∧ (id < 1 ∨ nI K.1 < id))) (fun _ => [(a0, .inr (0, [.ref a1, .ref a2, .ref a3, .ref a4, .int (nI K.1), .int (nI en)])), (a1, .inl (cI, 13, .inl K.2.1)), (a2, .inl (cI, 13, .inl K.2.2.1)), (a3, .inl (cI, 13, .inl K.2.2.2.1)), (a4, .inl (cI, 13, .inl K.2.2.2.2))]) := by
  refine gc_I_of (cc := cn_C_isThere) (maxL := 2) (ty := .boolean) (by decide) rfl (Nat.le_of_ble_eq_true rfl) ?_
  intro pp ee ss mm ar be me cd A Q ls H0 H locs hx hb hml hown hts hK hP hD hS hA hl hret
  have hw : ∀ w ∈ gw_T, w.before ar ss = true := fun w h => hts w (List.mem_cons_of_mem _ h)
  have hl : lv_has ls 2 [(0, .ref a0), (1, .int id)] := hl
  refine lv_iconst (v := 1) hx hb dn_C_isThere_0 (by decide) ?_
  refine lv_iload_n hx hb dn_C_isThere_1 rfl (lv_at hl 1 rfl) ?_
  refine lv_icmp_gt (tgt := 17) hx hb dn_C_isThere_2 (by decide) (fun h2 => ?_) (fun h2 => ?_)
  · skip
    refine lv_iconst (v := 0) hx hb dn_C_isThere_17 (by decide) ?_
    exact hret 0 () _ _ _ _ (Or.inr ⟨rfl, by first | exact Or.inl h2 | exact Or.inr h10⟩) rfl hP hD hS dn_C_isThere_18
  · skip
    refine lv_iload_n hx hb dn_C_isThere_5 rfl (lv_at hl 1 rfl) ?_
    refine lv_aload_n hx hb dn_C_isThere_6 rfl (lv_at hl 0 rfl) ?_
    refine va_get (D := (dC, dI)) (ci := 0) (v := .int (nI K.1)) (C := rn_C) (T := tn_C) (N := 6) hx hb hw ml_C hown hK hP 0 rfl rfl 4 (by decide) (hw _ mw_41) (fun _ h9 => h9) rfl dn_C_isThere_7 ?_
    refine lv_icmp_gt (tgt := 17) hx hb dn_C_isThere_10 (by decide) (fun h10 => ?_) (fun h10 => ?_)
    · skip
      refine lv_iconst (v := 0) hx hb dn_C_isThere_17 (by decide) ?_
      exact hret 0 () _ _ _ _ (Or.inr ⟨rfl, by first | exact Or.inl h2 | exact Or.inr h10⟩) rfl hP hD hS dn_C_isThere_18
    · skip
      refine lv_iconst (v := 1) hx hb dn_C_isThere_13 (by decide) ?_
      refine lv_goto (tgt := 18) hx hb dn_C_isThere_14 (by decide) ?_
      exact hret 1 () _ _ _ _ (Or.inl ⟨rfl, ct_id (by omega) h2 h10⟩) rfl hP hD hS dn_C_isThere_18

set_option maxRecDepth 100000 in
set_option maxHeartbeats 4000000 in
theorem c_C_isThereN (l : Launch) (dC : Nat → ClassId) (dI : Nat → Nat → Nat) (cI cZ : ClassId) (a0 a1 a2 a3 a4 : Nat) (K : ct_T) (en : Nat) (ho : K.1 ≤ 12) (j : Nat) (hj1 : 1 ≤ j) (hj2 : j ≤ K.1) : gc_I l yn_C_isThere (gw yn_C_isThere cn_C_isThere 2 (some .boolean)) (rm_ 0 0) (dC, dI) vwCl (gT cI cZ) [.ref a0, .int (nI j)] [(a0, .inr (0, [.ref a1, .ref a2, .ref a3, .ref a4, .int (nI K.1), .int (nI en)])), (a1, .inl (cI, 13, .inl K.2.1)), (a2, .inl (cI, 13, .inl K.2.2.1)), (a3, .inl (cI, 13, .inl K.2.2.2.1)), (a4, .inl (cI, 13, .inl K.2.2.2.2))] (fun r (_ : Unit) => r = 1) (fun _ => [(a0, .inr (0, [.ref a1, .ref a2, .ref a3, .ref a4, .int (nI K.1), .int (nI en)])), (a1, .inl (cI, 13, .inl K.2.1)), (a2, .inl (cI, 13, .inl K.2.2.1)), (a3, .inl (cI, 13, .inl K.2.2.2.1)), (a4, .inl (cI, 13, .inl K.2.2.2.2))]) := by
  refine gc_I_of (cc := cn_C_isThere) (maxL := 2) (ty := .boolean) (by decide) rfl (Nat.le_of_ble_eq_true rfl) ?_
  intro pp ee ss mm ar be me cd A Q ls H0 H locs hx hb hml hown hts hK hP hD hS hA hl hret
  have hw : ∀ w ∈ gw_T, w.before ar ss = true := fun w h => hts w (List.mem_cons_of_mem _ h)
  have hl : lv_has ls 2 [(0, .ref a0), (1, .int (nI j))] := hl
  refine lv_iconst (v := 1) hx hb dn_C_isThere_0 (by decide) ?_
  refine lv_iload_n hx hb dn_C_isThere_1 rfl (lv_at hl 1 rfl) ?_
  refine gr_cgt (tgt := 17) hx hb 1 j rfl rfl (by decide) (by omega) dn_C_isThere_2 (by decide) (fun h2 => absurd h2 (by omega)) (fun h2 => ?_)
  refine lv_iload_n hx hb dn_C_isThere_5 rfl (lv_at hl 1 rfl) ?_
  refine lv_aload_n hx hb dn_C_isThere_6 rfl (lv_at hl 0 rfl) ?_
  refine va_get (D := (dC, dI)) (ci := 0) (v := .int (nI K.1)) (C := rn_C) (T := tn_C) (N := 6) hx hb hw ml_C hown hK hP 0 rfl rfl 4 (by decide) (hw _ mw_41) (fun _ h9 => h9) rfl dn_C_isThere_7 ?_
  refine gr_cgt (tgt := 17) hx hb j K.1 rfl rfl (by omega) (by omega) dn_C_isThere_10 (by decide) (fun h10 => absurd h10 (by omega)) (fun h10 => ?_)
  refine lv_iconst (v := 1) hx hb dn_C_isThere_13 (by decide) ?_
  refine lv_goto (tgt := 18) hx hb dn_C_isThere_14 (by decide) ?_
  exact hret 1 () _ _ _ _ rfl rfl hP hD hS dn_C_isThere_18

set_option maxRecDepth 100000 in
set_option maxHeartbeats 4000000 in
theorem c_C_isThereK (l : Launch) (dC : Nat → ClassId) (dI : Nat → Nat → Nat) (cI cZ : ClassId) (a0 a1 a2 a3 a4 : Nat) (K : ct_T) (en : Nat) (ho : K.1 ≤ 12) (j : Nat) (hj1 : 1 ≤ j) (hj : j ≤ 12) : gc_I l yn_C_isThere (gw yn_C_isThere cn_C_isThere 2 (some .boolean)) (rm_ 0 0) (dC, dI) vwCl (gT cI cZ) [.ref a0, .int (nI j)] [(a0, .inr (0, [.ref a1, .ref a2, .ref a3, .ref a4, .int (nI K.1), .int (nI en)])), (a1, .inl (cI, 13, .inl K.2.1)), (a2, .inl (cI, 13, .inl K.2.2.1)), (a3, .inl (cI, 13, .inl K.2.2.2.1)), (a4, .inl (cI, 13, .inl K.2.2.2.2))] (fun r (_ : Unit) => (r = 1 ∧ j ≤ K.1) ∨ (r = 0 ∧ K.1 < j)) (fun _ => [(a0, .inr (0, [.ref a1, .ref a2, .ref a3, .ref a4, .int (nI K.1), .int (nI en)])), (a1, .inl (cI, 13, .inl K.2.1)), (a2, .inl (cI, 13, .inl K.2.2.1)), (a3, .inl (cI, 13, .inl K.2.2.2.1)), (a4, .inl (cI, 13, .inl K.2.2.2.2))]) := by
  refine gc_I_of (cc := cn_C_isThere) (maxL := 2) (ty := .boolean) (by decide) rfl (Nat.le_of_ble_eq_true rfl) ?_
  intro pp ee ss mm ar be me cd A Q ls H0 H locs hx hb hml hown hts hK hP hD hS hA hl hret
  have hw : ∀ w ∈ gw_T, w.before ar ss = true := fun w h => hts w (List.mem_cons_of_mem _ h)
  have hl : lv_has ls 2 [(0, .ref a0), (1, .int (nI j))] := hl
  refine lv_iconst (v := 1) hx hb dn_C_isThere_0 (by decide) ?_
  refine lv_iload_n hx hb dn_C_isThere_1 rfl (lv_at hl 1 rfl) ?_
  refine gr_cgt (tgt := 17) hx hb 1 j rfl rfl (by decide) (by omega) dn_C_isThere_2 (by decide) (fun h2 => absurd h2 (by omega)) (fun h2 => ?_)
  refine lv_iload_n hx hb dn_C_isThere_5 rfl (lv_at hl 1 rfl) ?_
  refine lv_aload_n hx hb dn_C_isThere_6 rfl (lv_at hl 0 rfl) ?_
  refine va_get (D := (dC, dI)) (ci := 0) (v := .int (nI K.1)) (C := rn_C) (T := tn_C) (N := 6) hx hb hw ml_C hown hK hP 0 rfl rfl 4 (by decide) (hw _ mw_41) (fun _ h9 => h9) rfl dn_C_isThere_7 ?_
  refine gr_cgt (tgt := 17) hx hb j K.1 rfl rfl (by omega) (by omega) dn_C_isThere_10 (by decide) (fun h10 => ?_) (fun h10 => ?_)
  · skip
    refine lv_iconst (v := 0) hx hb dn_C_isThere_17 (by decide) ?_
    exact hret 0 () _ _ _ _ (Or.inr ⟨rfl, by omega⟩) rfl hP hD hS dn_C_isThere_18
  · skip
    refine lv_iconst (v := 1) hx hb dn_C_isThere_13 (by decide) ?_
    refine lv_goto (tgt := 18) hx hb dn_C_isThere_14 (by decide) ?_
    exact hret 1 () _ _ _ _ (Or.inl ⟨rfl, by omega⟩) rfl hP hD hS dn_C_isThere_18

set_option maxRecDepth 100000 in
set_option maxHeartbeats 4000000 in
theorem c_C_stateOf (l : Launch) (dC : Nat → ClassId) (dI : Nat → Nat → Nat) (cI cZ : ClassId) (a0 a1 a2 a3 a4 : Nat) (K : ct_T) (en : Nat) (ho : K.1 ≤ 12) (id : Int32) : gc_I l yn_C_stateOf (gw yn_C_stateOf cn_C_stateOf 2 (some .int)) (rm_ 1 21) (dC, dI) vwCl (gT cI cZ) [.ref a0, .int id] [(a0, .inr (0, [.ref a1, .ref a2, .ref a3, .ref a4, .int (nI K.1), .int (nI en)])), (a1, .inl (cI, 13, .inl K.2.1)), (a2, .inl (cI, 13, .inl K.2.2.1)), (a3, .inl (cI, 13, .inl K.2.2.2.1)), (a4, .inl (cI, 13, .inl K.2.2.2.2))] (fun r (_ : Unit) => r = ct_so K K.2.1 id) (fun _ => [(a0, .inr (0, [.ref a1, .ref a2, .ref a3, .ref a4, .int (nI K.1), .int (nI en)])), (a1, .inl (cI, 13, .inl K.2.1)), (a2, .inl (cI, 13, .inl K.2.2.1)), (a3, .inl (cI, 13, .inl K.2.2.2.1)), (a4, .inl (cI, 13, .inl K.2.2.2.2))]) := by
  refine gc_I_of (cc := cn_C_stateOf) (maxL := 2) (ty := .int) (by decide) rfl (Nat.le_of_ble_eq_true rfl) ?_
  intro pp ee ss mm ar be me cd A Q ls H0 H locs hx hb hml hown hts hK hP hD hS hA hl hret
  have hw : ∀ w ∈ gw_T, w.before ar ss = true := fun w h => hts w (List.mem_cons_of_mem _ h)
  have hl : lv_has ls 2 [(0, .ref a0), (1, .int id)] := hl
  refine lv_aload_n hx hb dn_C_stateOf_0 rfl (lv_at hl 0 rfl) ?_
  refine lv_iload_n hx hb dn_C_stateOf_1 rfl (lv_at hl 1 rfl) ?_
  refine gc_vi (pre := []) (wc := [(a0, .inr (0, [.ref a1, .ref a2, .ref a3, .ref a4, .int (nI K.1), .int (nI en)])), (a1, .inl (cI, 13, .inl K.2.1)), (a2, .inl (cI, 13, .inl K.2.2.1)), (a3, .inl (cI, 13, .inl K.2.2.2.1)), (a4, .inl (cI, 13, .inl K.2.2.2.2))]) (po := []) (As := [.int id]) (rest := []) ⟨hx, hb, hml, hown, hw⟩ (c_C_isThere l dC dI cI cZ a0 a1 a2 a3 a4 K en (by omega) id) (gw_cV 1 hw mw_158 mw_159 mw_160 mw_3 mw_161 hd_C_isThere ⟨Nat.le_of_ble_eq_true rfl, Nat.le_of_ble_eq_true rfl⟩) (ci := 0) rfl rfl rfl hK hP hD hS hA rfl hl.1 rfl (Nat.le_of_ble_eq_true rfl) dn_C_stateOf_2 ⟨Nat.zero_le _, Nat.zero_le _⟩ (fun r2 u2 H locs hc2 hP hD hS => ?_)
  have hP : va_P (dC, dI) vwCl [(a0, .inr (0, [.ref a1, .ref a2, .ref a3, .ref a4, .int (nI K.1), .int (nI en)])), (a1, .inl (cI, 13, .inl K.2.1)), (a2, .inl (cI, 13, .inl K.2.2.1)), (a3, .inl (cI, 13, .inl K.2.2.2.1)), (a4, .inl (cI, 13, .inl K.2.2.2.2))] H := hP
  have hD : va_D A [(a0, .inr (0, [.ref a1, .ref a2, .ref a3, .ref a4, .int (nI K.1), .int (nI en)])), (a1, .inl (cI, 13, .inl K.2.1)), (a2, .inl (cI, 13, .inl K.2.2.1)), (a3, .inl (cI, 13, .inl K.2.2.2.1)), (a4, .inl (cI, 13, .inl K.2.2.2.2))] := hD
  rcases hc2 with ⟨rfl, j2, j2a, j2b, rfl⟩ | ⟨rfl, hno2⟩
  · skip
    refine lv_if_eq (tgt := 17) hx hb dn_C_stateOf_5 (by decide) (fun h => absurd h (by decide)) (fun _ => ?_)
    refine lv_aload_n hx hb dn_C_stateOf_8 rfl (lv_at hl 0 rfl) ?_
    refine va_get (D := (dC, dI)) (ci := 0) (v := .ref a1) (C := rn_C) (T := tn_C) (N := 6) hx hb hw ml_C hown hK hP 0 rfl rfl 0 (by decide) (hw _ mw_37) (fun _ h9 => h9) rfl dn_C_stateOf_9 ?_
    refine lv_iload_n hx hb dn_C_stateOf_12 rfl (lv_at hl 1 rfl) ?_
    refine gr_iald hx hb hK hP 1 0 rfl rfl j2 rfl (by omega) (by decide) dn_C_stateOf_13 ?_
    refine lv_goto (tgt := 18) hx hb dn_C_stateOf_14 (by decide) ?_
    exact hret (K.2.1 j2) () _ _ _ _ (ct_so_in j2a j2b ho).symm rfl hP hD hS dn_C_stateOf_18
  · skip
    refine lv_if_eq (tgt := 17) hx hb dn_C_stateOf_5 (by decide) (fun _ => ?_) (fun h => absurd h (by decide))
    refine lv_iconst (v := 0) hx hb dn_C_stateOf_17 (by decide) ?_
    exact hret 0 () _ _ _ _ (ct_so_out hno2).symm rfl hP hD hS dn_C_stateOf_18

set_option maxRecDepth 100000 in
set_option maxHeartbeats 4000000 in
theorem c_C_stateOfN (l : Launch) (dC : Nat → ClassId) (dI : Nat → Nat → Nat) (cI cZ : ClassId) (a0 a1 a2 a3 a4 : Nat) (K : ct_T) (en : Nat) (ho : K.1 ≤ 12) (j : Nat) (hj1 : 1 ≤ j) (hj2 : j ≤ K.1) : gc_I l yn_C_stateOf (gw yn_C_stateOf cn_C_stateOf 2 (some .int)) (rm_ 1 21) (dC, dI) vwCl (gT cI cZ) [.ref a0, .int (nI j)] [(a0, .inr (0, [.ref a1, .ref a2, .ref a3, .ref a4, .int (nI K.1), .int (nI en)])), (a1, .inl (cI, 13, .inl K.2.1)), (a2, .inl (cI, 13, .inl K.2.2.1)), (a3, .inl (cI, 13, .inl K.2.2.2.1)), (a4, .inl (cI, 13, .inl K.2.2.2.2))] (fun r (_ : Unit) => r = K.2.1 j) (fun _ => [(a0, .inr (0, [.ref a1, .ref a2, .ref a3, .ref a4, .int (nI K.1), .int (nI en)])), (a1, .inl (cI, 13, .inl K.2.1)), (a2, .inl (cI, 13, .inl K.2.2.1)), (a3, .inl (cI, 13, .inl K.2.2.2.1)), (a4, .inl (cI, 13, .inl K.2.2.2.2))]) := by
  refine gc_I_of (cc := cn_C_stateOf) (maxL := 2) (ty := .int) (by decide) rfl (Nat.le_of_ble_eq_true rfl) ?_
  intro pp ee ss mm ar be me cd A Q ls H0 H locs hx hb hml hown hts hK hP hD hS hA hl hret
  have hw : ∀ w ∈ gw_T, w.before ar ss = true := fun w h => hts w (List.mem_cons_of_mem _ h)
  have hl : lv_has ls 2 [(0, .ref a0), (1, .int (nI j))] := hl
  refine lv_aload_n hx hb dn_C_stateOf_0 rfl (lv_at hl 0 rfl) ?_
  refine lv_iload_n hx hb dn_C_stateOf_1 rfl (lv_at hl 1 rfl) ?_
  refine gc_vi (pre := []) (wc := [(a0, .inr (0, [.ref a1, .ref a2, .ref a3, .ref a4, .int (nI K.1), .int (nI en)])), (a1, .inl (cI, 13, .inl K.2.1)), (a2, .inl (cI, 13, .inl K.2.2.1)), (a3, .inl (cI, 13, .inl K.2.2.2.1)), (a4, .inl (cI, 13, .inl K.2.2.2.2))]) (po := []) (As := [.int (nI j)]) (rest := []) ⟨hx, hb, hml, hown, hw⟩ (c_C_isThereN l dC dI cI cZ a0 a1 a2 a3 a4 K en (by omega) j (by omega) (by omega)) (gw_cV 1 hw mw_158 mw_159 mw_160 mw_3 mw_161 hd_C_isThere ⟨Nat.le_of_ble_eq_true rfl, Nat.le_of_ble_eq_true rfl⟩) (ci := 0) rfl rfl rfl hK hP hD hS hA rfl hl.1 rfl (Nat.le_of_ble_eq_true rfl) dn_C_stateOf_2 ⟨Nat.zero_le _, Nat.zero_le _⟩ (fun r2 u2 H locs hc2 hP hD hS => ?_)
  subst hc2
  have hP : va_P (dC, dI) vwCl [(a0, .inr (0, [.ref a1, .ref a2, .ref a3, .ref a4, .int (nI K.1), .int (nI en)])), (a1, .inl (cI, 13, .inl K.2.1)), (a2, .inl (cI, 13, .inl K.2.2.1)), (a3, .inl (cI, 13, .inl K.2.2.2.1)), (a4, .inl (cI, 13, .inl K.2.2.2.2))] H := hP
  have hD : va_D A [(a0, .inr (0, [.ref a1, .ref a2, .ref a3, .ref a4, .int (nI K.1), .int (nI en)])), (a1, .inl (cI, 13, .inl K.2.1)), (a2, .inl (cI, 13, .inl K.2.2.1)), (a3, .inl (cI, 13, .inl K.2.2.2.1)), (a4, .inl (cI, 13, .inl K.2.2.2.2))] := hD
  refine lv_if_eq (tgt := 17) hx hb dn_C_stateOf_5 (by decide) (fun h => absurd h (by decide)) (fun _ => ?_)
  refine lv_aload_n hx hb dn_C_stateOf_8 rfl (lv_at hl 0 rfl) ?_
  refine va_get (D := (dC, dI)) (ci := 0) (v := .ref a1) (C := rn_C) (T := tn_C) (N := 6) hx hb hw ml_C hown hK hP 0 rfl rfl 0 (by decide) (hw _ mw_37) (fun _ h9 => h9) rfl dn_C_stateOf_9 ?_
  refine lv_iload_n hx hb dn_C_stateOf_12 rfl (lv_at hl 1 rfl) ?_
  refine gr_iald hx hb hK hP 1 0 rfl rfl j rfl (by omega) (by decide) dn_C_stateOf_13 ?_
  refine lv_goto (tgt := 18) hx hb dn_C_stateOf_14 (by decide) ?_
  exact hret (K.2.1 j) () _ _ _ _ rfl rfl hP hD hS dn_C_stateOf_18

set_option maxRecDepth 100000 in
set_option maxHeartbeats 4000000 in
theorem c_C_dateOf (l : Launch) (dC : Nat → ClassId) (dI : Nat → Nat → Nat) (cI cZ : ClassId) (a0 a1 a2 a3 a4 : Nat) (K : ct_T) (en : Nat) (ho : K.1 ≤ 12) (id : Int32) : gc_I l yn_C_dateOf (gw yn_C_dateOf cn_C_dateOf 2 (some .int)) (rm_ 1 21) (dC, dI) vwCl (gT cI cZ) [.ref a0, .int id] [(a0, .inr (0, [.ref a1, .ref a2, .ref a3, .ref a4, .int (nI K.1), .int (nI en)])), (a1, .inl (cI, 13, .inl K.2.1)), (a2, .inl (cI, 13, .inl K.2.2.1)), (a3, .inl (cI, 13, .inl K.2.2.2.1)), (a4, .inl (cI, 13, .inl K.2.2.2.2))] (fun r (_ : Unit) => r = ct_so K K.2.2.1 id) (fun _ => [(a0, .inr (0, [.ref a1, .ref a2, .ref a3, .ref a4, .int (nI K.1), .int (nI en)])), (a1, .inl (cI, 13, .inl K.2.1)), (a2, .inl (cI, 13, .inl K.2.2.1)), (a3, .inl (cI, 13, .inl K.2.2.2.1)), (a4, .inl (cI, 13, .inl K.2.2.2.2))]) := by
  refine gc_I_of (cc := cn_C_dateOf) (maxL := 2) (ty := .int) (by decide) rfl (Nat.le_of_ble_eq_true rfl) ?_
  intro pp ee ss mm ar be me cd A Q ls H0 H locs hx hb hml hown hts hK hP hD hS hA hl hret
  have hw : ∀ w ∈ gw_T, w.before ar ss = true := fun w h => hts w (List.mem_cons_of_mem _ h)
  have hl : lv_has ls 2 [(0, .ref a0), (1, .int id)] := hl
  refine lv_aload_n hx hb dn_C_dateOf_0 rfl (lv_at hl 0 rfl) ?_
  refine lv_iload_n hx hb dn_C_dateOf_1 rfl (lv_at hl 1 rfl) ?_
  refine gc_vi (pre := []) (wc := [(a0, .inr (0, [.ref a1, .ref a2, .ref a3, .ref a4, .int (nI K.1), .int (nI en)])), (a1, .inl (cI, 13, .inl K.2.1)), (a2, .inl (cI, 13, .inl K.2.2.1)), (a3, .inl (cI, 13, .inl K.2.2.2.1)), (a4, .inl (cI, 13, .inl K.2.2.2.2))]) (po := []) (As := [.int id]) (rest := []) ⟨hx, hb, hml, hown, hw⟩ (c_C_isThere l dC dI cI cZ a0 a1 a2 a3 a4 K en (by omega) id) (gw_cV 1 hw mw_158 mw_159 mw_160 mw_3 mw_161 hd_C_isThere ⟨Nat.le_of_ble_eq_true rfl, Nat.le_of_ble_eq_true rfl⟩) (ci := 0) rfl rfl rfl hK hP hD hS hA rfl hl.1 rfl (Nat.le_of_ble_eq_true rfl) dn_C_dateOf_2 ⟨Nat.zero_le _, Nat.zero_le _⟩ (fun r2 u2 H locs hc2 hP hD hS => ?_)
  have hP : va_P (dC, dI) vwCl [(a0, .inr (0, [.ref a1, .ref a2, .ref a3, .ref a4, .int (nI K.1), .int (nI en)])), (a1, .inl (cI, 13, .inl K.2.1)), (a2, .inl (cI, 13, .inl K.2.2.1)), (a3, .inl (cI, 13, .inl K.2.2.2.1)), (a4, .inl (cI, 13, .inl K.2.2.2.2))] H := hP
  have hD : va_D A [(a0, .inr (0, [.ref a1, .ref a2, .ref a3, .ref a4, .int (nI K.1), .int (nI en)])), (a1, .inl (cI, 13, .inl K.2.1)), (a2, .inl (cI, 13, .inl K.2.2.1)), (a3, .inl (cI, 13, .inl K.2.2.2.1)), (a4, .inl (cI, 13, .inl K.2.2.2.2))] := hD
  rcases hc2 with ⟨rfl, j2, j2a, j2b, rfl⟩ | ⟨rfl, hno2⟩
  · skip
    refine lv_if_eq (tgt := 17) hx hb dn_C_dateOf_5 (by decide) (fun h => absurd h (by decide)) (fun _ => ?_)
    refine lv_aload_n hx hb dn_C_dateOf_8 rfl (lv_at hl 0 rfl) ?_
    refine va_get (D := (dC, dI)) (ci := 0) (v := .ref a2) (C := rn_C) (T := tn_C) (N := 6) hx hb hw ml_C hown hK hP 0 rfl rfl 1 (by decide) (hw _ mw_38) (fun _ h9 => h9) rfl dn_C_dateOf_9 ?_
    refine lv_iload_n hx hb dn_C_dateOf_12 rfl (lv_at hl 1 rfl) ?_
    refine gr_iald hx hb hK hP 2 0 rfl rfl j2 rfl (by omega) (by decide) dn_C_dateOf_13 ?_
    refine lv_goto (tgt := 18) hx hb dn_C_dateOf_14 (by decide) ?_
    exact hret (K.2.2.1 j2) () _ _ _ _ (ct_so_in j2a j2b ho).symm rfl hP hD hS dn_C_dateOf_18
  · skip
    refine lv_if_eq (tgt := 17) hx hb dn_C_dateOf_5 (by decide) (fun _ => ?_) (fun h => absurd h (by decide))
    refine lv_iconst (v := 0) hx hb dn_C_dateOf_17 (by decide) ?_
    exact hret 0 () _ _ _ _ (ct_so_out hno2).symm rfl hP hD hS dn_C_dateOf_18

set_option maxRecDepth 100000 in
set_option maxHeartbeats 4000000 in
theorem c_C_dateOfN (l : Launch) (dC : Nat → ClassId) (dI : Nat → Nat → Nat) (cI cZ : ClassId) (a0 a1 a2 a3 a4 : Nat) (K : ct_T) (en : Nat) (ho : K.1 ≤ 12) (j : Nat) (hj1 : 1 ≤ j) (hj2 : j ≤ K.1) : gc_I l yn_C_dateOf (gw yn_C_dateOf cn_C_dateOf 2 (some .int)) (rm_ 1 21) (dC, dI) vwCl (gT cI cZ) [.ref a0, .int (nI j)] [(a0, .inr (0, [.ref a1, .ref a2, .ref a3, .ref a4, .int (nI K.1), .int (nI en)])), (a1, .inl (cI, 13, .inl K.2.1)), (a2, .inl (cI, 13, .inl K.2.2.1)), (a3, .inl (cI, 13, .inl K.2.2.2.1)), (a4, .inl (cI, 13, .inl K.2.2.2.2))] (fun r (_ : Unit) => r = K.2.2.1 j) (fun _ => [(a0, .inr (0, [.ref a1, .ref a2, .ref a3, .ref a4, .int (nI K.1), .int (nI en)])), (a1, .inl (cI, 13, .inl K.2.1)), (a2, .inl (cI, 13, .inl K.2.2.1)), (a3, .inl (cI, 13, .inl K.2.2.2.1)), (a4, .inl (cI, 13, .inl K.2.2.2.2))]) := by
  refine gc_I_of (cc := cn_C_dateOf) (maxL := 2) (ty := .int) (by decide) rfl (Nat.le_of_ble_eq_true rfl) ?_
  intro pp ee ss mm ar be me cd A Q ls H0 H locs hx hb hml hown hts hK hP hD hS hA hl hret
  have hw : ∀ w ∈ gw_T, w.before ar ss = true := fun w h => hts w (List.mem_cons_of_mem _ h)
  have hl : lv_has ls 2 [(0, .ref a0), (1, .int (nI j))] := hl
  refine lv_aload_n hx hb dn_C_dateOf_0 rfl (lv_at hl 0 rfl) ?_
  refine lv_iload_n hx hb dn_C_dateOf_1 rfl (lv_at hl 1 rfl) ?_
  refine gc_vi (pre := []) (wc := [(a0, .inr (0, [.ref a1, .ref a2, .ref a3, .ref a4, .int (nI K.1), .int (nI en)])), (a1, .inl (cI, 13, .inl K.2.1)), (a2, .inl (cI, 13, .inl K.2.2.1)), (a3, .inl (cI, 13, .inl K.2.2.2.1)), (a4, .inl (cI, 13, .inl K.2.2.2.2))]) (po := []) (As := [.int (nI j)]) (rest := []) ⟨hx, hb, hml, hown, hw⟩ (c_C_isThereN l dC dI cI cZ a0 a1 a2 a3 a4 K en (by omega) j (by omega) (by omega)) (gw_cV 1 hw mw_158 mw_159 mw_160 mw_3 mw_161 hd_C_isThere ⟨Nat.le_of_ble_eq_true rfl, Nat.le_of_ble_eq_true rfl⟩) (ci := 0) rfl rfl rfl hK hP hD hS hA rfl hl.1 rfl (Nat.le_of_ble_eq_true rfl) dn_C_dateOf_2 ⟨Nat.zero_le _, Nat.zero_le _⟩ (fun r2 u2 H locs hc2 hP hD hS => ?_)
  subst hc2
  have hP : va_P (dC, dI) vwCl [(a0, .inr (0, [.ref a1, .ref a2, .ref a3, .ref a4, .int (nI K.1), .int (nI en)])), (a1, .inl (cI, 13, .inl K.2.1)), (a2, .inl (cI, 13, .inl K.2.2.1)), (a3, .inl (cI, 13, .inl K.2.2.2.1)), (a4, .inl (cI, 13, .inl K.2.2.2.2))] H := hP
  have hD : va_D A [(a0, .inr (0, [.ref a1, .ref a2, .ref a3, .ref a4, .int (nI K.1), .int (nI en)])), (a1, .inl (cI, 13, .inl K.2.1)), (a2, .inl (cI, 13, .inl K.2.2.1)), (a3, .inl (cI, 13, .inl K.2.2.2.1)), (a4, .inl (cI, 13, .inl K.2.2.2.2))] := hD
  refine lv_if_eq (tgt := 17) hx hb dn_C_dateOf_5 (by decide) (fun h => absurd h (by decide)) (fun _ => ?_)
  refine lv_aload_n hx hb dn_C_dateOf_8 rfl (lv_at hl 0 rfl) ?_
  refine va_get (D := (dC, dI)) (ci := 0) (v := .ref a2) (C := rn_C) (T := tn_C) (N := 6) hx hb hw ml_C hown hK hP 0 rfl rfl 1 (by decide) (hw _ mw_38) (fun _ h9 => h9) rfl dn_C_dateOf_9 ?_
  refine lv_iload_n hx hb dn_C_dateOf_12 rfl (lv_at hl 1 rfl) ?_
  refine gr_iald hx hb hK hP 2 0 rfl rfl j rfl (by omega) (by decide) dn_C_dateOf_13 ?_
  refine lv_goto (tgt := 18) hx hb dn_C_dateOf_14 (by decide) ?_
  exact hret (K.2.2.1 j) () _ _ _ _ rfl rfl hP hD hS dn_C_dateOf_18

set_option maxRecDepth 100000 in
set_option maxHeartbeats 4000000 in
theorem c_C_holdsOf (l : Launch) (dC : Nat → ClassId) (dI : Nat → Nat → Nat) (cI cZ : ClassId) (a0 a1 a2 a3 a4 : Nat) (K : ct_T) (en : Nat) (ho : K.1 ≤ 12) (id : Int32) : gc_I l yn_C_holdsOf (gw yn_C_holdsOf cn_C_holdsOf 2 (some .int)) (rm_ 1 21) (dC, dI) vwCl (gT cI cZ) [.ref a0, .int id] [(a0, .inr (0, [.ref a1, .ref a2, .ref a3, .ref a4, .int (nI K.1), .int (nI en)])), (a1, .inl (cI, 13, .inl K.2.1)), (a2, .inl (cI, 13, .inl K.2.2.1)), (a3, .inl (cI, 13, .inl K.2.2.2.1)), (a4, .inl (cI, 13, .inl K.2.2.2.2))] (fun r (_ : Unit) => r = ct_so K K.2.2.2.1 id) (fun _ => [(a0, .inr (0, [.ref a1, .ref a2, .ref a3, .ref a4, .int (nI K.1), .int (nI en)])), (a1, .inl (cI, 13, .inl K.2.1)), (a2, .inl (cI, 13, .inl K.2.2.1)), (a3, .inl (cI, 13, .inl K.2.2.2.1)), (a4, .inl (cI, 13, .inl K.2.2.2.2))]) := by
  refine gc_I_of (cc := cn_C_holdsOf) (maxL := 2) (ty := .int) (by decide) rfl (Nat.le_of_ble_eq_true rfl) ?_
  intro pp ee ss mm ar be me cd A Q ls H0 H locs hx hb hml hown hts hK hP hD hS hA hl hret
  have hw : ∀ w ∈ gw_T, w.before ar ss = true := fun w h => hts w (List.mem_cons_of_mem _ h)
  have hl : lv_has ls 2 [(0, .ref a0), (1, .int id)] := hl
  refine lv_aload_n hx hb dn_C_holdsOf_0 rfl (lv_at hl 0 rfl) ?_
  refine lv_iload_n hx hb dn_C_holdsOf_1 rfl (lv_at hl 1 rfl) ?_
  refine gc_vi (pre := []) (wc := [(a0, .inr (0, [.ref a1, .ref a2, .ref a3, .ref a4, .int (nI K.1), .int (nI en)])), (a1, .inl (cI, 13, .inl K.2.1)), (a2, .inl (cI, 13, .inl K.2.2.1)), (a3, .inl (cI, 13, .inl K.2.2.2.1)), (a4, .inl (cI, 13, .inl K.2.2.2.2))]) (po := []) (As := [.int id]) (rest := []) ⟨hx, hb, hml, hown, hw⟩ (c_C_isThere l dC dI cI cZ a0 a1 a2 a3 a4 K en (by omega) id) (gw_cV 1 hw mw_158 mw_159 mw_160 mw_3 mw_161 hd_C_isThere ⟨Nat.le_of_ble_eq_true rfl, Nat.le_of_ble_eq_true rfl⟩) (ci := 0) rfl rfl rfl hK hP hD hS hA rfl hl.1 rfl (Nat.le_of_ble_eq_true rfl) dn_C_holdsOf_2 ⟨Nat.zero_le _, Nat.zero_le _⟩ (fun r2 u2 H locs hc2 hP hD hS => ?_)
  have hP : va_P (dC, dI) vwCl [(a0, .inr (0, [.ref a1, .ref a2, .ref a3, .ref a4, .int (nI K.1), .int (nI en)])), (a1, .inl (cI, 13, .inl K.2.1)), (a2, .inl (cI, 13, .inl K.2.2.1)), (a3, .inl (cI, 13, .inl K.2.2.2.1)), (a4, .inl (cI, 13, .inl K.2.2.2.2))] H := hP
  have hD : va_D A [(a0, .inr (0, [.ref a1, .ref a2, .ref a3, .ref a4, .int (nI K.1), .int (nI en)])), (a1, .inl (cI, 13, .inl K.2.1)), (a2, .inl (cI, 13, .inl K.2.2.1)), (a3, .inl (cI, 13, .inl K.2.2.2.1)), (a4, .inl (cI, 13, .inl K.2.2.2.2))] := hD
  rcases hc2 with ⟨rfl, j2, j2a, j2b, rfl⟩ | ⟨rfl, hno2⟩
  · skip
    refine lv_if_eq (tgt := 17) hx hb dn_C_holdsOf_5 (by decide) (fun h => absurd h (by decide)) (fun _ => ?_)
    refine lv_aload_n hx hb dn_C_holdsOf_8 rfl (lv_at hl 0 rfl) ?_
    refine va_get (D := (dC, dI)) (ci := 0) (v := .ref a3) (C := rn_C) (T := tn_C) (N := 6) hx hb hw ml_C hown hK hP 0 rfl rfl 2 (by decide) (hw _ mw_39) (fun _ h9 => h9) rfl dn_C_holdsOf_9 ?_
    refine lv_iload_n hx hb dn_C_holdsOf_12 rfl (lv_at hl 1 rfl) ?_
    refine gr_iald hx hb hK hP 3 0 rfl rfl j2 rfl (by omega) (by decide) dn_C_holdsOf_13 ?_
    refine lv_goto (tgt := 18) hx hb dn_C_holdsOf_14 (by decide) ?_
    exact hret (K.2.2.2.1 j2) () _ _ _ _ (ct_so_in j2a j2b ho).symm rfl hP hD hS dn_C_holdsOf_18
  · skip
    refine lv_if_eq (tgt := 17) hx hb dn_C_holdsOf_5 (by decide) (fun _ => ?_) (fun h => absurd h (by decide))
    refine lv_iconst (v := 0) hx hb dn_C_holdsOf_17 (by decide) ?_
    exact hret 0 () _ _ _ _ (ct_so_out hno2).symm rfl hP hD hS dn_C_holdsOf_18

set_option maxRecDepth 100000 in
set_option maxHeartbeats 4000000 in
theorem c_C_holdsOfN (l : Launch) (dC : Nat → ClassId) (dI : Nat → Nat → Nat) (cI cZ : ClassId) (a0 a1 a2 a3 a4 : Nat) (K : ct_T) (en : Nat) (ho : K.1 ≤ 12) (j : Nat) (hj1 : 1 ≤ j) (hj2 : j ≤ K.1) : gc_I l yn_C_holdsOf (gw yn_C_holdsOf cn_C_holdsOf 2 (some .int)) (rm_ 1 21) (dC, dI) vwCl (gT cI cZ) [.ref a0, .int (nI j)] [(a0, .inr (0, [.ref a1, .ref a2, .ref a3, .ref a4, .int (nI K.1), .int (nI en)])), (a1, .inl (cI, 13, .inl K.2.1)), (a2, .inl (cI, 13, .inl K.2.2.1)), (a3, .inl (cI, 13, .inl K.2.2.2.1)), (a4, .inl (cI, 13, .inl K.2.2.2.2))] (fun r (_ : Unit) => r = K.2.2.2.1 j) (fun _ => [(a0, .inr (0, [.ref a1, .ref a2, .ref a3, .ref a4, .int (nI K.1), .int (nI en)])), (a1, .inl (cI, 13, .inl K.2.1)), (a2, .inl (cI, 13, .inl K.2.2.1)), (a3, .inl (cI, 13, .inl K.2.2.2.1)), (a4, .inl (cI, 13, .inl K.2.2.2.2))]) := by
  refine gc_I_of (cc := cn_C_holdsOf) (maxL := 2) (ty := .int) (by decide) rfl (Nat.le_of_ble_eq_true rfl) ?_
  intro pp ee ss mm ar be me cd A Q ls H0 H locs hx hb hml hown hts hK hP hD hS hA hl hret
  have hw : ∀ w ∈ gw_T, w.before ar ss = true := fun w h => hts w (List.mem_cons_of_mem _ h)
  have hl : lv_has ls 2 [(0, .ref a0), (1, .int (nI j))] := hl
  refine lv_aload_n hx hb dn_C_holdsOf_0 rfl (lv_at hl 0 rfl) ?_
  refine lv_iload_n hx hb dn_C_holdsOf_1 rfl (lv_at hl 1 rfl) ?_
  refine gc_vi (pre := []) (wc := [(a0, .inr (0, [.ref a1, .ref a2, .ref a3, .ref a4, .int (nI K.1), .int (nI en)])), (a1, .inl (cI, 13, .inl K.2.1)), (a2, .inl (cI, 13, .inl K.2.2.1)), (a3, .inl (cI, 13, .inl K.2.2.2.1)), (a4, .inl (cI, 13, .inl K.2.2.2.2))]) (po := []) (As := [.int (nI j)]) (rest := []) ⟨hx, hb, hml, hown, hw⟩ (c_C_isThereN l dC dI cI cZ a0 a1 a2 a3 a4 K en (by omega) j (by omega) (by omega)) (gw_cV 1 hw mw_158 mw_159 mw_160 mw_3 mw_161 hd_C_isThere ⟨Nat.le_of_ble_eq_true rfl, Nat.le_of_ble_eq_true rfl⟩) (ci := 0) rfl rfl rfl hK hP hD hS hA rfl hl.1 rfl (Nat.le_of_ble_eq_true rfl) dn_C_holdsOf_2 ⟨Nat.zero_le _, Nat.zero_le _⟩ (fun r2 u2 H locs hc2 hP hD hS => ?_)
  subst hc2
  have hP : va_P (dC, dI) vwCl [(a0, .inr (0, [.ref a1, .ref a2, .ref a3, .ref a4, .int (nI K.1), .int (nI en)])), (a1, .inl (cI, 13, .inl K.2.1)), (a2, .inl (cI, 13, .inl K.2.2.1)), (a3, .inl (cI, 13, .inl K.2.2.2.1)), (a4, .inl (cI, 13, .inl K.2.2.2.2))] H := hP
  have hD : va_D A [(a0, .inr (0, [.ref a1, .ref a2, .ref a3, .ref a4, .int (nI K.1), .int (nI en)])), (a1, .inl (cI, 13, .inl K.2.1)), (a2, .inl (cI, 13, .inl K.2.2.1)), (a3, .inl (cI, 13, .inl K.2.2.2.1)), (a4, .inl (cI, 13, .inl K.2.2.2.2))] := hD
  refine lv_if_eq (tgt := 17) hx hb dn_C_holdsOf_5 (by decide) (fun h => absurd h (by decide)) (fun _ => ?_)
  refine lv_aload_n hx hb dn_C_holdsOf_8 rfl (lv_at hl 0 rfl) ?_
  refine va_get (D := (dC, dI)) (ci := 0) (v := .ref a3) (C := rn_C) (T := tn_C) (N := 6) hx hb hw ml_C hown hK hP 0 rfl rfl 2 (by decide) (hw _ mw_39) (fun _ h9 => h9) rfl dn_C_holdsOf_9 ?_
  refine lv_iload_n hx hb dn_C_holdsOf_12 rfl (lv_at hl 1 rfl) ?_
  refine gr_iald hx hb hK hP 3 0 rfl rfl j rfl (by omega) (by decide) dn_C_holdsOf_13 ?_
  refine lv_goto (tgt := 18) hx hb dn_C_holdsOf_14 (by decide) ?_
  exact hret (K.2.2.2.1 j) () _ _ _ _ rfl rfl hP hD hS dn_C_holdsOf_18

set_option maxRecDepth 100000 in
set_option maxHeartbeats 4000000 in
theorem c_C_putRecordOf (l : Launch) (dC : Nat → ClassId) (dI : Nat → Nat → Nat) (cI cZ : ClassId) (a0 a1 a2 a3 a4 : Nat) (K : ct_T) (en : Nat) (ho : K.1 ≤ 12) (id : Int32) : gc_I l yn_C_putRecordOf (gw yn_C_putRecordOf cn_C_putRecordOf 2 (some .int)) (rm_ 1 21) (dC, dI) vwCl (gT cI cZ) [.ref a0, .int id] [(a0, .inr (0, [.ref a1, .ref a2, .ref a3, .ref a4, .int (nI K.1), .int (nI en)])), (a1, .inl (cI, 13, .inl K.2.1)), (a2, .inl (cI, 13, .inl K.2.2.1)), (a3, .inl (cI, 13, .inl K.2.2.2.1)), (a4, .inl (cI, 13, .inl K.2.2.2.2))] (fun r (_ : Unit) => r = ct_so K K.2.2.2.2 id) (fun _ => [(a0, .inr (0, [.ref a1, .ref a2, .ref a3, .ref a4, .int (nI K.1), .int (nI en)])), (a1, .inl (cI, 13, .inl K.2.1)), (a2, .inl (cI, 13, .inl K.2.2.1)), (a3, .inl (cI, 13, .inl K.2.2.2.1)), (a4, .inl (cI, 13, .inl K.2.2.2.2))]) := by
  refine gc_I_of (cc := cn_C_putRecordOf) (maxL := 2) (ty := .int) (by decide) rfl (Nat.le_of_ble_eq_true rfl) ?_
  intro pp ee ss mm ar be me cd A Q ls H0 H locs hx hb hml hown hts hK hP hD hS hA hl hret
  have hw : ∀ w ∈ gw_T, w.before ar ss = true := fun w h => hts w (List.mem_cons_of_mem _ h)
  have hl : lv_has ls 2 [(0, .ref a0), (1, .int id)] := hl
  refine lv_aload_n hx hb dn_C_putRecordOf_0 rfl (lv_at hl 0 rfl) ?_
  refine lv_iload_n hx hb dn_C_putRecordOf_1 rfl (lv_at hl 1 rfl) ?_
  refine gc_vi (pre := []) (wc := [(a0, .inr (0, [.ref a1, .ref a2, .ref a3, .ref a4, .int (nI K.1), .int (nI en)])), (a1, .inl (cI, 13, .inl K.2.1)), (a2, .inl (cI, 13, .inl K.2.2.1)), (a3, .inl (cI, 13, .inl K.2.2.2.1)), (a4, .inl (cI, 13, .inl K.2.2.2.2))]) (po := []) (As := [.int id]) (rest := []) ⟨hx, hb, hml, hown, hw⟩ (c_C_isThere l dC dI cI cZ a0 a1 a2 a3 a4 K en (by omega) id) (gw_cV 1 hw mw_158 mw_159 mw_160 mw_3 mw_161 hd_C_isThere ⟨Nat.le_of_ble_eq_true rfl, Nat.le_of_ble_eq_true rfl⟩) (ci := 0) rfl rfl rfl hK hP hD hS hA rfl hl.1 rfl (Nat.le_of_ble_eq_true rfl) dn_C_putRecordOf_2 ⟨Nat.zero_le _, Nat.zero_le _⟩ (fun r2 u2 H locs hc2 hP hD hS => ?_)
  have hP : va_P (dC, dI) vwCl [(a0, .inr (0, [.ref a1, .ref a2, .ref a3, .ref a4, .int (nI K.1), .int (nI en)])), (a1, .inl (cI, 13, .inl K.2.1)), (a2, .inl (cI, 13, .inl K.2.2.1)), (a3, .inl (cI, 13, .inl K.2.2.2.1)), (a4, .inl (cI, 13, .inl K.2.2.2.2))] H := hP
  have hD : va_D A [(a0, .inr (0, [.ref a1, .ref a2, .ref a3, .ref a4, .int (nI K.1), .int (nI en)])), (a1, .inl (cI, 13, .inl K.2.1)), (a2, .inl (cI, 13, .inl K.2.2.1)), (a3, .inl (cI, 13, .inl K.2.2.2.1)), (a4, .inl (cI, 13, .inl K.2.2.2.2))] := hD
  rcases hc2 with ⟨rfl, j2, j2a, j2b, rfl⟩ | ⟨rfl, hno2⟩
  · skip
    refine lv_if_eq (tgt := 17) hx hb dn_C_putRecordOf_5 (by decide) (fun h => absurd h (by decide)) (fun _ => ?_)
    refine lv_aload_n hx hb dn_C_putRecordOf_8 rfl (lv_at hl 0 rfl) ?_
    refine va_get (D := (dC, dI)) (ci := 0) (v := .ref a4) (C := rn_C) (T := tn_C) (N := 6) hx hb hw ml_C hown hK hP 0 rfl rfl 3 (by decide) (hw _ mw_40) (fun _ h9 => h9) rfl dn_C_putRecordOf_9 ?_
    refine lv_iload_n hx hb dn_C_putRecordOf_12 rfl (lv_at hl 1 rfl) ?_
    refine gr_iald hx hb hK hP 4 0 rfl rfl j2 rfl (by omega) (by decide) dn_C_putRecordOf_13 ?_
    refine lv_goto (tgt := 18) hx hb dn_C_putRecordOf_14 (by decide) ?_
    exact hret (K.2.2.2.2 j2) () _ _ _ _ (ct_so_in j2a j2b ho).symm rfl hP hD hS dn_C_putRecordOf_18
  · skip
    refine lv_if_eq (tgt := 17) hx hb dn_C_putRecordOf_5 (by decide) (fun _ => ?_) (fun h => absurd h (by decide))
    refine lv_iconst (v := 0) hx hb dn_C_putRecordOf_17 (by decide) ?_
    exact hret 0 () _ _ _ _ (ct_so_out hno2).symm rfl hP hD hS dn_C_putRecordOf_18

set_option maxRecDepth 100000 in
set_option maxHeartbeats 4000000 in
theorem c_C_putRecordOfN (l : Launch) (dC : Nat → ClassId) (dI : Nat → Nat → Nat) (cI cZ : ClassId) (a0 a1 a2 a3 a4 : Nat) (K : ct_T) (en : Nat) (ho : K.1 ≤ 12) (j : Nat) (hj1 : 1 ≤ j) (hj2 : j ≤ K.1) : gc_I l yn_C_putRecordOf (gw yn_C_putRecordOf cn_C_putRecordOf 2 (some .int)) (rm_ 1 21) (dC, dI) vwCl (gT cI cZ) [.ref a0, .int (nI j)] [(a0, .inr (0, [.ref a1, .ref a2, .ref a3, .ref a4, .int (nI K.1), .int (nI en)])), (a1, .inl (cI, 13, .inl K.2.1)), (a2, .inl (cI, 13, .inl K.2.2.1)), (a3, .inl (cI, 13, .inl K.2.2.2.1)), (a4, .inl (cI, 13, .inl K.2.2.2.2))] (fun r (_ : Unit) => r = K.2.2.2.2 j) (fun _ => [(a0, .inr (0, [.ref a1, .ref a2, .ref a3, .ref a4, .int (nI K.1), .int (nI en)])), (a1, .inl (cI, 13, .inl K.2.1)), (a2, .inl (cI, 13, .inl K.2.2.1)), (a3, .inl (cI, 13, .inl K.2.2.2.1)), (a4, .inl (cI, 13, .inl K.2.2.2.2))]) := by
  refine gc_I_of (cc := cn_C_putRecordOf) (maxL := 2) (ty := .int) (by decide) rfl (Nat.le_of_ble_eq_true rfl) ?_
  intro pp ee ss mm ar be me cd A Q ls H0 H locs hx hb hml hown hts hK hP hD hS hA hl hret
  have hw : ∀ w ∈ gw_T, w.before ar ss = true := fun w h => hts w (List.mem_cons_of_mem _ h)
  have hl : lv_has ls 2 [(0, .ref a0), (1, .int (nI j))] := hl
  refine lv_aload_n hx hb dn_C_putRecordOf_0 rfl (lv_at hl 0 rfl) ?_
  refine lv_iload_n hx hb dn_C_putRecordOf_1 rfl (lv_at hl 1 rfl) ?_
  refine gc_vi (pre := []) (wc := [(a0, .inr (0, [.ref a1, .ref a2, .ref a3, .ref a4, .int (nI K.1), .int (nI en)])), (a1, .inl (cI, 13, .inl K.2.1)), (a2, .inl (cI, 13, .inl K.2.2.1)), (a3, .inl (cI, 13, .inl K.2.2.2.1)), (a4, .inl (cI, 13, .inl K.2.2.2.2))]) (po := []) (As := [.int (nI j)]) (rest := []) ⟨hx, hb, hml, hown, hw⟩ (c_C_isThereN l dC dI cI cZ a0 a1 a2 a3 a4 K en (by omega) j (by omega) (by omega)) (gw_cV 1 hw mw_158 mw_159 mw_160 mw_3 mw_161 hd_C_isThere ⟨Nat.le_of_ble_eq_true rfl, Nat.le_of_ble_eq_true rfl⟩) (ci := 0) rfl rfl rfl hK hP hD hS hA rfl hl.1 rfl (Nat.le_of_ble_eq_true rfl) dn_C_putRecordOf_2 ⟨Nat.zero_le _, Nat.zero_le _⟩ (fun r2 u2 H locs hc2 hP hD hS => ?_)
  subst hc2
  have hP : va_P (dC, dI) vwCl [(a0, .inr (0, [.ref a1, .ref a2, .ref a3, .ref a4, .int (nI K.1), .int (nI en)])), (a1, .inl (cI, 13, .inl K.2.1)), (a2, .inl (cI, 13, .inl K.2.2.1)), (a3, .inl (cI, 13, .inl K.2.2.2.1)), (a4, .inl (cI, 13, .inl K.2.2.2.2))] H := hP
  have hD : va_D A [(a0, .inr (0, [.ref a1, .ref a2, .ref a3, .ref a4, .int (nI K.1), .int (nI en)])), (a1, .inl (cI, 13, .inl K.2.1)), (a2, .inl (cI, 13, .inl K.2.2.1)), (a3, .inl (cI, 13, .inl K.2.2.2.1)), (a4, .inl (cI, 13, .inl K.2.2.2.2))] := hD
  refine lv_if_eq (tgt := 17) hx hb dn_C_putRecordOf_5 (by decide) (fun h => absurd h (by decide)) (fun _ => ?_)
  refine lv_aload_n hx hb dn_C_putRecordOf_8 rfl (lv_at hl 0 rfl) ?_
  refine va_get (D := (dC, dI)) (ci := 0) (v := .ref a4) (C := rn_C) (T := tn_C) (N := 6) hx hb hw ml_C hown hK hP 0 rfl rfl 3 (by decide) (hw _ mw_40) (fun _ h9 => h9) rfl dn_C_putRecordOf_9 ?_
  refine lv_iload_n hx hb dn_C_putRecordOf_12 rfl (lv_at hl 1 rfl) ?_
  refine gr_iald hx hb hK hP 4 0 rfl rfl j rfl (by omega) (by decide) dn_C_putRecordOf_13 ?_
  refine lv_goto (tgt := 18) hx hb dn_C_putRecordOf_14 (by decide) ?_
  exact hret (K.2.2.2.2 j) () _ _ _ _ rfl rfl hP hD hS dn_C_putRecordOf_18

set_option maxRecDepth 100000 in
set_option maxHeartbeats 4000000 in
theorem c_C_isLive (l : Launch) (dC : Nat → ClassId) (dI : Nat → Nat → Nat) (cI cZ : ClassId) (a0 a1 a2 a3 a4 : Nat) (K : ct_T) (en : Nat) (ho : K.1 ≤ 12) (id : Int32) : gc_I l yn_C_isLive (gw yn_C_isLive cn_C_isLive 2 (some .boolean)) (rm_ 2 42) (dC, dI) vwCl (gT cI cZ) [.ref a0, .int id] [(a0, .inr (0, [.ref a1, .ref a2, .ref a3, .ref a4, .int (nI K.1), .int (nI en)])), (a1, .inl (cI, 13, .inl K.2.1)), (a2, .inl (cI, 13, .inl K.2.2.1)), (a3, .inl (cI, 13, .inl K.2.2.2.1)), (a4, .inl (cI, 13, .inl K.2.2.2.2))] (fun r (_ : Unit) => (r = 1 ∧ ct_so K K.2.1 id = 1) ∨ (r = 0 ∧ ¬ ct_so K K.2.1 id = 1)) (fun _ => [(a0, .inr (0, [.ref a1, .ref a2, .ref a3, .ref a4, .int (nI K.1), .int (nI en)])), (a1, .inl (cI, 13, .inl K.2.1)), (a2, .inl (cI, 13, .inl K.2.2.1)), (a3, .inl (cI, 13, .inl K.2.2.2.1)), (a4, .inl (cI, 13, .inl K.2.2.2.2))]) := by
  refine gc_I_of (cc := cn_C_isLive) (maxL := 2) (ty := .boolean) (by decide) rfl (Nat.le_of_ble_eq_true rfl) ?_
  intro pp ee ss mm ar be me cd A Q ls H0 H locs hx hb hml hown hts hK hP hD hS hA hl hret
  have hw : ∀ w ∈ gw_T, w.before ar ss = true := fun w h => hts w (List.mem_cons_of_mem _ h)
  have hl : lv_has ls 2 [(0, .ref a0), (1, .int id)] := hl
  refine lv_aload_n hx hb dn_C_isLive_0 rfl (lv_at hl 0 rfl) ?_
  refine lv_iload_n hx hb dn_C_isLive_1 rfl (lv_at hl 1 rfl) ?_
  refine gc_vi (pre := []) (wc := [(a0, .inr (0, [.ref a1, .ref a2, .ref a3, .ref a4, .int (nI K.1), .int (nI en)])), (a1, .inl (cI, 13, .inl K.2.1)), (a2, .inl (cI, 13, .inl K.2.2.1)), (a3, .inl (cI, 13, .inl K.2.2.2.1)), (a4, .inl (cI, 13, .inl K.2.2.2.2))]) (po := []) (As := [.int id]) (rest := []) ⟨hx, hb, hml, hown, hw⟩ (c_C_stateOf l dC dI cI cZ a0 a1 a2 a3 a4 K en (by omega) id) (gw_cV 1 hw mw_166 mw_167 mw_168 mw_3 mw_169 hd_C_stateOf ⟨Nat.le_of_ble_eq_true rfl, Nat.le_of_ble_eq_true rfl⟩) (ci := 0) rfl rfl rfl hK hP hD hS hA rfl hl.1 rfl (Nat.le_of_ble_eq_true rfl) dn_C_isLive_2 ⟨Nat.zero_le _, Nat.zero_le _⟩ (fun r2 u2 H locs hc2 hP hD hS => ?_)
  subst hc2
  have hP : va_P (dC, dI) vwCl [(a0, .inr (0, [.ref a1, .ref a2, .ref a3, .ref a4, .int (nI K.1), .int (nI en)])), (a1, .inl (cI, 13, .inl K.2.1)), (a2, .inl (cI, 13, .inl K.2.2.1)), (a3, .inl (cI, 13, .inl K.2.2.2.1)), (a4, .inl (cI, 13, .inl K.2.2.2.2))] H := hP
  have hD : va_D A [(a0, .inr (0, [.ref a1, .ref a2, .ref a3, .ref a4, .int (nI K.1), .int (nI en)])), (a1, .inl (cI, 13, .inl K.2.1)), (a2, .inl (cI, 13, .inl K.2.2.1)), (a3, .inl (cI, 13, .inl K.2.2.2.1)), (a4, .inl (cI, 13, .inl K.2.2.2.2))] := hD
  refine lv_iconst (v := 1) hx hb dn_C_isLive_5 (by decide) ?_
  refine lv_icmp_ne (tgt := 13) hx hb dn_C_isLive_6 (by decide) (fun h6 => ?_) (fun h6 => ?_)
  · skip
    refine lv_iconst (v := 0) hx hb dn_C_isLive_13 (by decide) ?_
    exact hret 0 () _ _ _ _ (Or.inr ⟨rfl, h6⟩) rfl hP hD hS dn_C_isLive_14
  · skip
    refine lv_iconst (v := 1) hx hb dn_C_isLive_9 (by decide) ?_
    refine lv_goto (tgt := 14) hx hb dn_C_isLive_10 (by decide) ?_
    exact hret 1 () _ _ _ _ (Or.inl ⟨rfl, h6⟩) rfl hP hD hS dn_C_isLive_14

set_option maxRecDepth 100000 in
set_option maxHeartbeats 4000000 in
theorem c_C_mayKeepKey (l : Launch) (dC : Nat → ClassId) (dI : Nat → Nat → Nat) (cI cZ : ClassId) (a0 a1 a2 a3 a4 : Nat) (K : ct_T) (en : Nat) (ho : K.1 ≤ 12) (j : Nat) (hj1 : 1 ≤ j) (hj : j ≤ 12) : gc_I l yn_C_mayKeepKey (gw yn_C_mayKeepKey cn_C_mayKeepKey 2 (some .boolean)) (rm_ 2 42) (dC, dI) vwCl (gT cI cZ) [.ref a0, .int (nI j)] [(a0, .inr (0, [.ref a1, .ref a2, .ref a3, .ref a4, .int (nI K.1), .int (nI en)])), (a1, .inl (cI, 13, .inl K.2.1)), (a2, .inl (cI, 13, .inl K.2.2.1)), (a3, .inl (cI, 13, .inl K.2.2.2.1)), (a4, .inl (cI, 13, .inl K.2.2.2.2))] (fun r (_ : Unit) => (r = 1 ∧ ¬ (K.1 < j ∨ K.2.1 j = 3)) ∨ (r = 0 ∧ (K.1 < j ∨ K.2.1 j = 3))) (fun _ => [(a0, .inr (0, [.ref a1, .ref a2, .ref a3, .ref a4, .int (nI K.1), .int (nI en)])), (a1, .inl (cI, 13, .inl K.2.1)), (a2, .inl (cI, 13, .inl K.2.2.1)), (a3, .inl (cI, 13, .inl K.2.2.2.1)), (a4, .inl (cI, 13, .inl K.2.2.2.2))]) := by
  refine gc_I_of (cc := cn_C_mayKeepKey) (maxL := 2) (ty := .boolean) (by decide) rfl (Nat.le_of_ble_eq_true rfl) ?_
  intro pp ee ss mm ar be me cd A Q ls H0 H locs hx hb hml hown hts hK hP hD hS hA hl hret
  have hw : ∀ w ∈ gw_T, w.before ar ss = true := fun w h => hts w (List.mem_cons_of_mem _ h)
  have hl : lv_has ls 2 [(0, .ref a0), (1, .int (nI j))] := hl
  refine lv_aload_n hx hb dn_C_mayKeepKey_0 rfl (lv_at hl 0 rfl) ?_
  refine lv_iload_n hx hb dn_C_mayKeepKey_1 rfl (lv_at hl 1 rfl) ?_
  refine gc_vi (pre := []) (wc := [(a0, .inr (0, [.ref a1, .ref a2, .ref a3, .ref a4, .int (nI K.1), .int (nI en)])), (a1, .inl (cI, 13, .inl K.2.1)), (a2, .inl (cI, 13, .inl K.2.2.1)), (a3, .inl (cI, 13, .inl K.2.2.2.1)), (a4, .inl (cI, 13, .inl K.2.2.2.2))]) (po := []) (As := [.int (nI j)]) (rest := []) ⟨hx, hb, hml, hown, hw⟩ (c_C_isThereK l dC dI cI cZ a0 a1 a2 a3 a4 K en (by omega) j (by omega) (by omega)) (gw_cV 1 hw mw_158 mw_159 mw_160 mw_3 mw_161 hd_C_isThere ⟨Nat.le_of_ble_eq_true rfl, Nat.le_of_ble_eq_true rfl⟩) (ci := 0) rfl rfl rfl hK hP hD hS hA rfl hl.1 rfl (Nat.le_of_ble_eq_true rfl) dn_C_mayKeepKey_2 ⟨Nat.zero_le _, Nat.zero_le _⟩ (fun r2 u2 H locs hc2 hP hD hS => ?_)
  have hP : va_P (dC, dI) vwCl [(a0, .inr (0, [.ref a1, .ref a2, .ref a3, .ref a4, .int (nI K.1), .int (nI en)])), (a1, .inl (cI, 13, .inl K.2.1)), (a2, .inl (cI, 13, .inl K.2.2.1)), (a3, .inl (cI, 13, .inl K.2.2.2.1)), (a4, .inl (cI, 13, .inl K.2.2.2.2))] H := hP
  have hD : va_D A [(a0, .inr (0, [.ref a1, .ref a2, .ref a3, .ref a4, .int (nI K.1), .int (nI en)])), (a1, .inl (cI, 13, .inl K.2.1)), (a2, .inl (cI, 13, .inl K.2.2.1)), (a3, .inl (cI, 13, .inl K.2.2.2.1)), (a4, .inl (cI, 13, .inl K.2.2.2.2))] := hD
  rcases hc2 with ⟨rfl, hj2⟩ | ⟨rfl, hj2⟩
  · skip
    refine lv_if_eq (tgt := 21) hx hb dn_C_mayKeepKey_5 (by decide) (fun h => absurd h (by decide)) (fun _ => ?_)
    refine lv_aload_n hx hb dn_C_mayKeepKey_8 rfl (lv_at hl 0 rfl) ?_
    refine lv_iload_n hx hb dn_C_mayKeepKey_9 rfl (lv_at hl 1 rfl) ?_
    refine gc_vi (pre := []) (wc := [(a0, .inr (0, [.ref a1, .ref a2, .ref a3, .ref a4, .int (nI K.1), .int (nI en)])), (a1, .inl (cI, 13, .inl K.2.1)), (a2, .inl (cI, 13, .inl K.2.2.1)), (a3, .inl (cI, 13, .inl K.2.2.2.1)), (a4, .inl (cI, 13, .inl K.2.2.2.2))]) (po := []) (As := [.int (nI j)]) (rest := []) ⟨hx, hb, hml, hown, hw⟩ (c_C_stateOfN l dC dI cI cZ a0 a1 a2 a3 a4 K en (by omega) j (by omega) (by omega)) (gw_cV 1 hw mw_166 mw_167 mw_168 mw_3 mw_169 hd_C_stateOf ⟨Nat.le_of_ble_eq_true rfl, Nat.le_of_ble_eq_true rfl⟩) (ci := 0) rfl rfl rfl hK hP hD hS hA rfl hl.1 rfl (Nat.le_of_ble_eq_true rfl) dn_C_mayKeepKey_10 ⟨Nat.zero_le _, Nat.zero_le _⟩ (fun r10 u10 H locs hc10 hP hD hS => ?_)
    subst hc10
    have hP : va_P (dC, dI) vwCl [(a0, .inr (0, [.ref a1, .ref a2, .ref a3, .ref a4, .int (nI K.1), .int (nI en)])), (a1, .inl (cI, 13, .inl K.2.1)), (a2, .inl (cI, 13, .inl K.2.2.1)), (a3, .inl (cI, 13, .inl K.2.2.2.1)), (a4, .inl (cI, 13, .inl K.2.2.2.2))] H := hP
    have hD : va_D A [(a0, .inr (0, [.ref a1, .ref a2, .ref a3, .ref a4, .int (nI K.1), .int (nI en)])), (a1, .inl (cI, 13, .inl K.2.1)), (a2, .inl (cI, 13, .inl K.2.2.1)), (a3, .inl (cI, 13, .inl K.2.2.2.1)), (a4, .inl (cI, 13, .inl K.2.2.2.2))] := hD
    refine lv_iconst (v := 3) hx hb dn_C_mayKeepKey_13 (by decide) ?_
    refine lv_icmp_eq (tgt := 21) hx hb dn_C_mayKeepKey_14 (by decide) (fun h14 => ?_) (fun h14 => ?_)
    · skip
      refine lv_iconst (v := 0) hx hb dn_C_mayKeepKey_21 (by decide) ?_
      exact hret 0 () _ _ _ _ (Or.inr ⟨rfl, by first | exact Or.inl hj2 | exact Or.inr h14⟩) rfl hP hD hS dn_C_mayKeepKey_22
    · skip
      refine lv_iconst (v := 1) hx hb dn_C_mayKeepKey_17 (by decide) ?_
      refine lv_goto (tgt := 22) hx hb dn_C_mayKeepKey_18 (by decide) ?_
      exact hret 1 () _ _ _ _ (Or.inl ⟨rfl, fun q => q.elim (fun q => absurd q (by omega)) h14⟩) rfl hP hD hS dn_C_mayKeepKey_22
  · skip
    refine lv_if_eq (tgt := 21) hx hb dn_C_mayKeepKey_5 (by decide) (fun _ => ?_) (fun h => absurd h (by decide))
    refine lv_iconst (v := 0) hx hb dn_C_mayKeepKey_21 (by decide) ?_
    exact hret 0 () _ _ _ _ (Or.inr ⟨rfl, by first | exact Or.inl hj2 | exact Or.inr h14⟩) rfl hP hD hS dn_C_mayKeepKey_22

set_option maxRecDepth 100000 in
set_option maxHeartbeats 4000000 in
theorem c_C_isDate (l : Launch) (dC : Nat → ClassId) (dI : Nat → Nat → Nat) (cI cZ : ClassId) (v : Int32) : gc_I l yn_C_isDate (gw yn_C_isDate cn_C_isDate 1 (some .boolean)) (rm_ 0 0) (dC, dI) vwCl (gT cI cZ) [.int v] [] (fun r (_ : Unit) => (r = 1 ∧ ¬ (v < 0 ∨ 1000000 < v)) ∨ (r = 0 ∧ (v < 0 ∨ 1000000 < v))) (fun _ => []) := by
  refine gc_I_of (cc := cn_C_isDate) (maxL := 1) (ty := .boolean) (by decide) rfl (Nat.le_of_ble_eq_true rfl) ?_
  intro pp ee ss mm ar be me cd A Q ls H0 H locs hx hb hml hown hts hK hP hD hS hA hl hret
  have hw : ∀ w ∈ gw_T, w.before ar ss = true := fun w h => hts w (List.mem_cons_of_mem _ h)
  have hl : lv_has ls 1 [(0, .int v)] := hl
  refine lv_iconst (v := 0) hx hb dn_C_isDate_0 (by decide) ?_
  refine lv_iload_n hx hb dn_C_isDate_1 rfl (lv_at hl 0 rfl) ?_
  refine lv_icmp_gt (tgt := 15) hx hb dn_C_isDate_2 (by decide) (fun h2 => ?_) (fun h2 => ?_)
  · skip
    refine lv_iconst (v := 0) hx hb dn_C_isDate_15 (by decide) ?_
    exact hret 0 () _ _ _ _ (Or.inr ⟨rfl, by first | exact Or.inl h2 | exact Or.inr h8⟩) rfl hP hD hS dn_C_isDate_16
  · skip
    refine lv_iload_n hx hb dn_C_isDate_5 rfl (lv_at hl 0 rfl) ?_
    refine lv_ldc (v := 1000000) hx hb hown (hw _ mw_153) dn_C_isDate_6 ?_
    refine lv_icmp_gt (tgt := 15) hx hb dn_C_isDate_8 (by decide) (fun h8 => ?_) (fun h8 => ?_)
    · skip
      refine lv_iconst (v := 0) hx hb dn_C_isDate_15 (by decide) ?_
      exact hret 0 () _ _ _ _ (Or.inr ⟨rfl, by first | exact Or.inl h2 | exact Or.inr h8⟩) rfl hP hD hS dn_C_isDate_16
    · skip
      refine lv_iconst (v := 1) hx hb dn_C_isDate_11 (by decide) ?_
      refine lv_goto (tgt := 16) hx hb dn_C_isDate_12 (by decide) ?_
      exact hret 1 () _ _ _ _ (Or.inl ⟨rfl, fun q => q.elim h2 h8⟩) rfl hP hD hS dn_C_isDate_16

set_option maxRecDepth 100000 in
set_option maxHeartbeats 4000000 in
theorem c_C_putVerdict (l : Launch) (dC : Nat → ClassId) (dI : Nat → Nat → Nat) (cI cZ : ClassId) (a0 a1 a2 a3 a4 : Nat) (K : ct_T) (en : Nat) (ho : K.1 ≤ 12) (id v t : Int32) : gc_I l yn_C_putVerdict (gw yn_C_putVerdict cn_C_putVerdict 3 (some .int)) (rm_ 1 20) (dC, dI) vwCl (gT cI cZ) [.ref a0, .int v, .int t] [(a0, .inr (0, [.ref a1, .ref a2, .ref a3, .ref a4, .int (nI K.1), .int (nI en)])), (a1, .inl (cI, 13, .inl K.2.1)), (a2, .inl (cI, 13, .inl K.2.2.1)), (a3, .inl (cI, 13, .inl K.2.2.2.1)), (a4, .inl (cI, 13, .inl K.2.2.2.2))] (fun r (_ : Unit) => r = ct_ruC K 1 id v t) (fun _ => [(a0, .inr (0, [.ref a1, .ref a2, .ref a3, .ref a4, .int (nI K.1), .int (nI en)])), (a1, .inl (cI, 13, .inl K.2.1)), (a2, .inl (cI, 13, .inl K.2.2.1)), (a3, .inl (cI, 13, .inl K.2.2.2.1)), (a4, .inl (cI, 13, .inl K.2.2.2.2))]) := by
  refine gc_I_of (cc := cn_C_putVerdict) (maxL := 3) (ty := .int) (by decide) rfl (Nat.le_of_ble_eq_true rfl) ?_
  intro pp ee ss mm ar be me cd A Q ls H0 H locs hx hb hml hown hts hK hP hD hS hA hl hret
  have hw : ∀ w ∈ gw_T, w.before ar ss = true := fun w h => hts w (List.mem_cons_of_mem _ h)
  have hl : lv_has ls 3 [(0, .ref a0), (1, .int v), (2, .int t)] := hl
  refine lv_iload_n hx hb dn_C_putVerdict_0 rfl (lv_at hl 1 rfl) ?_
  refine gc_si (pre := [(a0, .inr (0, [.ref a1, .ref a2, .ref a3, .ref a4, .int (nI K.1), .int (nI en)])), (a1, .inl (cI, 13, .inl K.2.1)), (a2, .inl (cI, 13, .inl K.2.2.1)), (a3, .inl (cI, 13, .inl K.2.2.2.1)), (a4, .inl (cI, 13, .inl K.2.2.2.2))]) (wc := []) (po := []) (As := [.int v]) (rest := []) ⟨hx, hb, hml, hown, hw⟩ (c_C_isDate l dC dI cI cZ v) (gw_cS 1 hw mw_150 mw_151 mw_3 mw_152 hd_C_isDate ⟨Nat.le_of_ble_eq_true rfl, Nat.le_of_ble_eq_true rfl⟩) hK hP hD hS hA rfl hl.1 rfl (Nat.le_of_ble_eq_true rfl) dn_C_putVerdict_1 ⟨Nat.zero_le _, Nat.zero_le _⟩ (fun r1 u1 H locs hc1 hP hD hS => ?_)
  have hP : va_P (dC, dI) vwCl [(a0, .inr (0, [.ref a1, .ref a2, .ref a3, .ref a4, .int (nI K.1), .int (nI en)])), (a1, .inl (cI, 13, .inl K.2.1)), (a2, .inl (cI, 13, .inl K.2.2.1)), (a3, .inl (cI, 13, .inl K.2.2.2.1)), (a4, .inl (cI, 13, .inl K.2.2.2.2))] H := hP
  have hD : va_D A [(a0, .inr (0, [.ref a1, .ref a2, .ref a3, .ref a4, .int (nI K.1), .int (nI en)])), (a1, .inl (cI, 13, .inl K.2.1)), (a2, .inl (cI, 13, .inl K.2.2.1)), (a3, .inl (cI, 13, .inl K.2.2.2.1)), (a4, .inl (cI, 13, .inl K.2.2.2.2))] := hD
  rcases hc1 with ⟨rfl, hd1⟩ | ⟨rfl, hd1⟩
  · skip
    refine lv_if_ne (tgt := 9) hx hb dn_C_putVerdict_4 (by decide) (fun _ => ?_) (fun h => absurd h (by decide))
    refine lv_iload_n hx hb dn_C_putVerdict_9 rfl (lv_at hl 1 rfl) ?_
    refine lv_iload_n hx hb dn_C_putVerdict_10 rfl (lv_at hl 2 rfl) ?_
    refine lv_icmp_ge (tgt := 17) hx hb dn_C_putVerdict_11 (by decide) (fun h11 => ?_) (fun h11 => ?_)
    · skip
      refine lv_aload_n hx hb dn_C_putVerdict_17 rfl (lv_at hl 0 rfl) ?_
      refine va_get (D := (dC, dI)) (ci := 0) (v := .int (nI K.1)) (C := rn_C) (T := tn_C) (N := 6) hx hb hw ml_C hown hK hP 0 rfl rfl 4 (by decide) (hw _ mw_41) (fun _ h9 => h9) rfl dn_C_putVerdict_18 ?_
      refine lv_bipush (v := 12) hx hb dn_C_putVerdict_21 (by decide) ?_
      refine gr_clt (tgt := 31) hx hb K.1 12 rfl rfl (by omega) (by decide) dn_C_putVerdict_23 (by decide) (fun h23 => ?_) (fun h23 => ?_)
      · skip
        refine lv_iconst (v := 0) hx hb dn_C_putVerdict_31 (by decide) ?_
        exact hret 0 () _ _ _ _ (ru1_ok hd1 (Int32.not_lt.mpr h11) (by omega)) rfl hP hD hS dn_C_putVerdict_32
      · skip
        refine lv_bipush (v := (-8)) hx hb dn_C_putVerdict_26 (by decide) ?_
        refine lv_goto (tgt := 32) hx hb dn_C_putVerdict_28 (by decide) ?_
        exact hret (-8) () _ _ _ _ (ru1_full hd1 (Int32.not_lt.mpr h11) h23) rfl hP hD hS dn_C_putVerdict_32
    · skip
      refine lv_bipush (v := (-4)) hx hb dn_C_putVerdict_14 (by decide) ?_
      exact hret (-4) () _ _ _ _ (ru1_short hd1 (Int32.not_le.mp h11)) rfl hP hD hS dn_C_putVerdict_16
  · skip
    refine lv_if_ne (tgt := 9) hx hb dn_C_putVerdict_4 (by decide) (fun h => absurd h (by decide)) (fun _ => ?_)
    refine lv_iconst (v := (-1)) hx hb dn_C_putVerdict_7 (by decide) ?_
    exact hret (-1) () _ _ _ _ (ru1_bad hd1) rfl hP hD hS dn_C_putVerdict_8

set_option maxRecDepth 100000 in
set_option maxHeartbeats 4000000 in
theorem c_C_extendVerdict (l : Launch) (dC : Nat → ClassId) (dI : Nat → Nat → Nat) (cI cZ : ClassId) (a0 a1 a2 a3 a4 : Nat) (K : ct_T) (en : Nat) (ho : K.1 ≤ 12) (id v t : Int32) : gc_I l yn_C_extendVerdict (gw yn_C_extendVerdict cn_C_extendVerdict 3 (some .int)) (rm_ 1 21) (dC, dI) vwCl (gT cI cZ) [.ref a0, .int id, .int v] [(a0, .inr (0, [.ref a1, .ref a2, .ref a3, .ref a4, .int (nI K.1), .int (nI en)])), (a1, .inl (cI, 13, .inl K.2.1)), (a2, .inl (cI, 13, .inl K.2.2.1)), (a3, .inl (cI, 13, .inl K.2.2.2.1)), (a4, .inl (cI, 13, .inl K.2.2.2.2))] (fun r (_ : Unit) => r = ct_ruC K 2 id v t) (fun _ => [(a0, .inr (0, [.ref a1, .ref a2, .ref a3, .ref a4, .int (nI K.1), .int (nI en)])), (a1, .inl (cI, 13, .inl K.2.1)), (a2, .inl (cI, 13, .inl K.2.2.1)), (a3, .inl (cI, 13, .inl K.2.2.2.1)), (a4, .inl (cI, 13, .inl K.2.2.2.2))]) := by
  refine gc_I_of (cc := cn_C_extendVerdict) (maxL := 3) (ty := .int) (by decide) rfl (Nat.le_of_ble_eq_true rfl) ?_
  intro pp ee ss mm ar be me cd A Q ls H0 H locs hx hb hml hown hts hK hP hD hS hA hl hret
  have hw : ∀ w ∈ gw_T, w.before ar ss = true := fun w h => hts w (List.mem_cons_of_mem _ h)
  have hl : lv_has ls 3 [(0, .ref a0), (1, .int id), (2, .int v)] := hl
  refine lv_iload_n hx hb dn_C_extendVerdict_0 rfl (lv_at hl 2 rfl) ?_
  refine gc_si (pre := [(a0, .inr (0, [.ref a1, .ref a2, .ref a3, .ref a4, .int (nI K.1), .int (nI en)])), (a1, .inl (cI, 13, .inl K.2.1)), (a2, .inl (cI, 13, .inl K.2.2.1)), (a3, .inl (cI, 13, .inl K.2.2.2.1)), (a4, .inl (cI, 13, .inl K.2.2.2.2))]) (wc := []) (po := []) (As := [.int v]) (rest := []) ⟨hx, hb, hml, hown, hw⟩ (c_C_isDate l dC dI cI cZ v) (gw_cS 1 hw mw_150 mw_151 mw_3 mw_152 hd_C_isDate ⟨Nat.le_of_ble_eq_true rfl, Nat.le_of_ble_eq_true rfl⟩) hK hP hD hS hA rfl hl.1 rfl (Nat.le_of_ble_eq_true rfl) dn_C_extendVerdict_1 ⟨Nat.zero_le _, Nat.zero_le _⟩ (fun r1 u1 H locs hc1 hP hD hS => ?_)
  have hP : va_P (dC, dI) vwCl [(a0, .inr (0, [.ref a1, .ref a2, .ref a3, .ref a4, .int (nI K.1), .int (nI en)])), (a1, .inl (cI, 13, .inl K.2.1)), (a2, .inl (cI, 13, .inl K.2.2.1)), (a3, .inl (cI, 13, .inl K.2.2.2.1)), (a4, .inl (cI, 13, .inl K.2.2.2.2))] H := hP
  have hD : va_D A [(a0, .inr (0, [.ref a1, .ref a2, .ref a3, .ref a4, .int (nI K.1), .int (nI en)])), (a1, .inl (cI, 13, .inl K.2.1)), (a2, .inl (cI, 13, .inl K.2.2.1)), (a3, .inl (cI, 13, .inl K.2.2.2.1)), (a4, .inl (cI, 13, .inl K.2.2.2.2))] := hD
  rcases hc1 with ⟨rfl, hd1⟩ | ⟨rfl, hd1⟩
  · skip
    refine lv_if_ne (tgt := 9) hx hb dn_C_extendVerdict_4 (by decide) (fun _ => ?_) (fun h => absurd h (by decide))
    refine lv_aload_n hx hb dn_C_extendVerdict_9 rfl (lv_at hl 0 rfl) ?_
    refine lv_iload_n hx hb dn_C_extendVerdict_10 rfl (lv_at hl 1 rfl) ?_
    refine gc_vi (pre := []) (wc := [(a0, .inr (0, [.ref a1, .ref a2, .ref a3, .ref a4, .int (nI K.1), .int (nI en)])), (a1, .inl (cI, 13, .inl K.2.1)), (a2, .inl (cI, 13, .inl K.2.2.1)), (a3, .inl (cI, 13, .inl K.2.2.2.1)), (a4, .inl (cI, 13, .inl K.2.2.2.2))]) (po := []) (As := [.int id]) (rest := []) ⟨hx, hb, hml, hown, hw⟩ (c_C_isThere l dC dI cI cZ a0 a1 a2 a3 a4 K en (by omega) id) (gw_cV 1 hw mw_158 mw_159 mw_160 mw_3 mw_161 hd_C_isThere ⟨Nat.le_of_ble_eq_true rfl, Nat.le_of_ble_eq_true rfl⟩) (ci := 0) rfl rfl rfl hK hP hD hS hA rfl hl.1 rfl (Nat.le_of_ble_eq_true rfl) dn_C_extendVerdict_11 ⟨Nat.zero_le _, Nat.zero_le _⟩ (fun r11 u11 H locs hc11 hP hD hS => ?_)
    have hP : va_P (dC, dI) vwCl [(a0, .inr (0, [.ref a1, .ref a2, .ref a3, .ref a4, .int (nI K.1), .int (nI en)])), (a1, .inl (cI, 13, .inl K.2.1)), (a2, .inl (cI, 13, .inl K.2.2.1)), (a3, .inl (cI, 13, .inl K.2.2.2.1)), (a4, .inl (cI, 13, .inl K.2.2.2.2))] H := hP
    have hD : va_D A [(a0, .inr (0, [.ref a1, .ref a2, .ref a3, .ref a4, .int (nI K.1), .int (nI en)])), (a1, .inl (cI, 13, .inl K.2.1)), (a2, .inl (cI, 13, .inl K.2.2.1)), (a3, .inl (cI, 13, .inl K.2.2.2.1)), (a4, .inl (cI, 13, .inl K.2.2.2.2))] := hD
    rcases hc11 with ⟨rfl, j11, j11a, j11b, rfl⟩ | ⟨rfl, hno11⟩
    · skip
      refine lv_if_ne (tgt := 20) hx hb dn_C_extendVerdict_14 (by decide) (fun _ => ?_) (fun h => absurd h (by decide))
      refine lv_aload_n hx hb dn_C_extendVerdict_20 rfl (lv_at hl 0 rfl) ?_
      refine va_get (D := (dC, dI)) (ci := 0) (v := .ref a1) (C := rn_C) (T := tn_C) (N := 6) hx hb hw ml_C hown hK hP 0 rfl rfl 0 (by decide) (hw _ mw_37) (fun _ h9 => h9) rfl dn_C_extendVerdict_21 ?_
      refine lv_iload_n hx hb dn_C_extendVerdict_24 rfl (lv_at hl 1 rfl) ?_
      refine gr_iald hx hb hK hP 1 0 rfl rfl j11 rfl (by omega) (by decide) dn_C_extendVerdict_25 ?_
      refine lv_iconst (v := 1) hx hb dn_C_extendVerdict_26 (by decide) ?_
      refine lv_icmp_eq (tgt := 33) hx hb dn_C_extendVerdict_27 (by decide) (fun h27 => ?_) (fun h27 => ?_)
      · skip
        refine lv_iload_n hx hb dn_C_extendVerdict_33 rfl (lv_at hl 2 rfl) ?_
        refine lv_aload_n hx hb dn_C_extendVerdict_34 rfl (lv_at hl 0 rfl) ?_
        refine va_get (D := (dC, dI)) (ci := 0) (v := .ref a2) (C := rn_C) (T := tn_C) (N := 6) hx hb hw ml_C hown hK hP 0 rfl rfl 1 (by decide) (hw _ mw_38) (fun _ h9 => h9) rfl dn_C_extendVerdict_35 ?_
        refine lv_iload_n hx hb dn_C_extendVerdict_38 rfl (lv_at hl 1 rfl) ?_
        refine gr_iald hx hb hK hP 2 0 rfl rfl j11 rfl (by omega) (by decide) dn_C_extendVerdict_39 ?_
        refine lv_icmp_gt (tgt := 48) hx hb dn_C_extendVerdict_40 (by decide) (fun h40 => ?_) (fun h40 => ?_)
        · skip
          refine lv_iconst (v := 0) hx hb dn_C_extendVerdict_48 (by decide) ?_
          exact hret 0 () _ _ _ _ (ru2_ok hd1 j11a j11b ho h27 (Int32.not_le.mpr h40)) rfl hP hD hS dn_C_extendVerdict_49
        · skip
          refine lv_bipush (v := (-4)) hx hb dn_C_extendVerdict_43 (by decide) ?_
          refine lv_goto (tgt := 49) hx hb dn_C_extendVerdict_45 (by decide) ?_
          exact hret (-4) () _ _ _ _ (ru2_short hd1 j11a j11b ho h27 (Int32.not_lt.mp h40)) rfl hP hD hS dn_C_extendVerdict_49
      · skip
        refine lv_bipush (v := (-3)) hx hb dn_C_extendVerdict_30 (by decide) ?_
        exact hret (-3) () _ _ _ _ (ru2_gone hd1 j11a j11b ho h27) rfl hP hD hS dn_C_extendVerdict_32
    · skip
      refine lv_if_ne (tgt := 20) hx hb dn_C_extendVerdict_14 (by decide) (fun h => absurd h (by decide)) (fun _ => ?_)
      refine lv_bipush (v := (-2)) hx hb dn_C_extendVerdict_17 (by decide) ?_
      exact hret (-2) () _ _ _ _ (ru2_abs hd1 hno11) rfl hP hD hS dn_C_extendVerdict_19
  · skip
    refine lv_if_ne (tgt := 9) hx hb dn_C_extendVerdict_4 (by decide) (fun h => absurd h (by decide)) (fun _ => ?_)
    refine lv_iconst (v := (-1)) hx hb dn_C_extendVerdict_7 (by decide) ?_
    exact hret (-1) () _ _ _ _ (ru2_bad hd1) rfl hP hD hS dn_C_extendVerdict_8
end
section
/-! entering records, soundness as the class asks it -/
theorem sw_no {x : Int32} (h : x.toInt < 1 ∨ 6 < x.toInt) : ¬ (1 ≤ x ∧ x ≤ 6) := by
  rintro ⟨a, b⟩
  rw [Int32.le_iff_toInt_le] at a b
  have e1 : (1 : Int32).toInt = 1 := by decide
  have e6 : (6 : Int32).toInt = 6 := by decide
  omega
def ct_vd (C : ct_T) (en : Nat) (kind id v t : Int32) : Int32 := if ct_vk C kind id v t = 0 ∧ 40 ≤ en then -8 else ct_vk C kind id v t
theorem ct_vk_in {C : ct_T} {kind id v t : Int32} (h1 : 1 ≤ kind) (h6 : kind ≤ 6) : ct_vk C kind id v t = ct_ruC C kind id v t := by unfold ct_vk; rw [if_pos ⟨h1, h6⟩]
theorem ct_vd_lt {C : ct_T} {en : Nat} (h : en < 40) (kind id v t : Int32) : ct_vd C en kind id v t = ct_vk C kind id v t := by unfold ct_vd; rw [if_neg (fun q => absurd q.2 (by omega))]
theorem ct_ru_no {C : ct_T} (ho : C.1 ≤ 12) {kind id v t : Int32} (hk : kind ≠ 1) (hr : ct_ruC C kind id v t = 0) (hno : id < 1 ∨ nI C.1 < id) : False := by
  obtain ⟨j, j1, j2, rfl⟩ := ct_ru_there (by omega) hk hr
  exact ru_in j1 j2 ho hno
theorem ap_1 (C : ct_T) (en : Nat) (id v : Int32) : (C.1 + 1, upd C.2.1 (C.1 + 1) 1, upd C.2.2.1 (C.1 + 1) v, upd C.2.2.2.1 (C.1 + 1) 0, upd C.2.2.2.2 (C.1 + 1) (nI en)) = ct_ap C en 1 id v := by
  rw [ct_ap, if_pos rfl]
theorem ap_2 (C : ct_T) (en : Nat) {j : Nat} (hj : j ≤ 12) (v : Int32) : (C.1, C.2.1, upd C.2.2.1 j v, C.2.2.2.1, C.2.2.2.2) = ct_ap C en 2 (nI j) v := by
  rw [ct_ap, if_neg (by decide), if_pos rfl, nI_clamp (by omega)]
theorem ap_3 {C : ct_T} (en : Nat) {j : Nat} (hj1 : 1 ≤ j) (hj : j ≤ C.1) (ho : C.1 ≤ 12) {v t : Int32} (hG : ∀ j, 1 ≤ j → j ≤ C.1 → ∃ g, g < 256 ∧ C.2.2.2.1 j = nI g) (hr : ct_ruC C 3 (nI j) v t = 0) : (C.1, C.2.1, C.2.2.1, upd C.2.2.2.1 j (C.2.2.2.1 j ||| ((1 : Int32) <<< (v &&& 31))), C.2.2.2.2) = ct_ap C en 3 (nI j) v := by
  rw [ct_ap, if_neg (by decide), if_neg (by decide), if_pos rfl, nI_clamp (by omega)]
  obtain ⟨⟨w, hw, rfl⟩, hh⟩ := ct_ru_hold (Or.inl rfl) hr
  rw [nI_clamp (by omega)] at hh
  obtain ⟨g, hg, e⟩ := hG j hj1 hj
  rw [e] at hh ⊢
  have := (ct_bits w hw g hg).2.2 (fun q => hh ⟨fun _ => rfl, fun _ => q⟩)
  rw [this.2.1, this.2.2]
theorem ap_4 {C : ct_T} (en : Nat) {j : Nat} (hj1 : 1 ≤ j) (hj : j ≤ C.1) (ho : C.1 ≤ 12) {v t : Int32} (hG : ∀ j, 1 ≤ j → j ≤ C.1 → ∃ g, g < 256 ∧ C.2.2.2.1 j = nI g) (hr : ct_ruC C 4 (nI j) v t = 0) : (C.1, C.2.1, C.2.2.1, upd C.2.2.2.1 j (C.2.2.2.1 j &&& (((1 : Int32) <<< (v &&& 31)) ^^^ (-1))), C.2.2.2.2) = ct_ap C en 4 (nI j) v := by
  rw [ct_ap, if_neg (by decide), if_neg (by decide), if_neg (by decide), if_pos rfl, nI_clamp (by omega)]
  obtain ⟨⟨w, hw, rfl⟩, hh⟩ := ct_ru_hold (Or.inr rfl) hr
  rw [nI_clamp (by omega)] at hh
  obtain ⟨g, hg, e⟩ := hG j hj1 hj
  rw [e] at hh ⊢
  have hb : ct_has (nI g) (nI w) := Classical.byContradiction fun q => hh ⟨fun z => absurd z q, fun z => absurd z (by decide)⟩
  have := (ct_bits w hw g hg).2.1 hb
  rw [this.2.1, this.2.2]
theorem ap_5 (C : ct_T) (en : Nat) {j : Nat} (hj : j ≤ 12) (v : Int32) : (C.1, upd C.2.1 j 2, C.2.2.1, C.2.2.2.1, C.2.2.2.2) = ct_ap C en 5 (nI j) v := by
  rw [ct_ap, if_neg (by decide), if_neg (by decide), if_neg (by decide), if_neg (by decide), nI_clamp (by omega)]
  rfl
theorem ap_6 (C : ct_T) (en : Nat) {j : Nat} (hj : j ≤ 12) (v : Int32) : (C.1, upd C.2.1 j 3, C.2.2.1, C.2.2.2.1, C.2.2.2.2) = ct_ap C en 6 (nI j) v := by
  rw [ct_ap, if_neg (by decide), if_neg (by decide), if_neg (by decide), if_neg (by decide), nI_clamp (by omega)]
  rfl
/-- a record's form -/
def ct_wf (f : Nat → Int32) (r ob : Nat) : Prop := (f (7 * r) = 1 → f (7 * r + 1) = nI (ob + 1)) ∧ (f (7 * r) ≠ 1 → f (7 * r + 3) = 0 ∧ f (7 * r + 4) = 0) ∧ (f (7 * r) = 5 ∨ f (7 * r) = 6 → f (7 * r + 2) = 0)
/-- soundness as the class asks it -/
def ct_okK (f : Nat → Int32) (k : Int32) (r : Nat) (C : ct_T) : Prop := f (7 * r + 6) = (hf_leaf f (7 * r) ||| 1) ∧ (ct_bf f r ≤ f (7 * r + 5) ∧ f (7 * r + 5) ≤ k) ∧ ct_wf f r C.1 ∧ ct_vk C (f (7 * r)) (f (7 * r + 1)) (f (7 * r + 2)) (f (7 * r + 5)) = 0
theorem ct_okK_iff {f : Nat → Int32} {k : Int32} {r : Nat} {C : ct_T} (h : ct_eq C (ct_st f r)) (ho : C.1 ≤ 12) : ct_okK f k r C ↔ ct_ok f k r := by
  unfold ct_okK ct_ok ct_wf
  rw [← ce_ru h ho, ← h.1]
  constructor
  · rintro ⟨a1, ⟨a2, a3⟩, ⟨b1, b2, b3⟩, c1⟩
    by_cases hk : 1 ≤ f (7 * r) ∧ f (7 * r) ≤ 6
    · rw [ct_vk_in hk.1 hk.2] at c1
      refine ⟨a1, hk.1, hk.2, a2, a3, b2, fun q => b3 ?_, b1, c1⟩
      rcases ct_kind hk.1 hk.2 with e | e | e | e | e | e <;> rw [e] at q ⊢
      · exact absurd q (by decide)
      · exact absurd q (by decide)
      · exact absurd q (by decide)
      · exact absurd q (by decide)
      · exact Or.inl rfl
      · exact Or.inr rfl
    · unfold ct_vk at c1
      rw [if_neg hk] at c1
      exact absurd c1 (by decide)
  · rintro ⟨a1, k1, k6, a2, a3, b2, b3, b1, c1⟩
    refine ⟨a1, ⟨a2, a3⟩, ⟨b1, b2, fun q => b3 ?_⟩, by rw [ct_vk_in k1 k6]; exact c1⟩
    rcases q with q | q <;> rw [q] <;> decide
end
section
theorem dn_C_holdVerdict_0 : decode cn_C_holdVerdict 0 = .ok (.iload_n 2, 1) := by decide +kernel
theorem dn_C_holdVerdict_1 : decode cn_C_holdVerdict 1 = .ok (.ifCond .lt 9, 3) := by decide +kernel
theorem dn_C_holdVerdict_4 : decode cn_C_holdVerdict 4 = .ok (.iload_n 2, 1) := by decide +kernel
theorem dn_C_holdVerdict_5 : decode cn_C_holdVerdict 5 = .ok (.bipush 7, 2) := by decide +kernel
theorem dn_C_holdVerdict_7 : decode cn_C_holdVerdict 7 = .ok (.if_icmp .le 5, 3) := by decide +kernel
theorem dn_C_holdVerdict_10 : decode cn_C_holdVerdict 10 = .ok (.iconst (-1), 1) := by decide +kernel
theorem dn_C_holdVerdict_11 : decode cn_C_holdVerdict 11 = .ok (.ireturn, 1) := by decide +kernel
theorem dn_C_holdVerdict_12 : decode cn_C_holdVerdict 12 = .ok (.aload_n 0, 1) := by decide +kernel
theorem dn_C_holdVerdict_13 : decode cn_C_holdVerdict 13 = .ok (.iload_n 1, 1) := by decide +kernel
theorem dn_C_holdVerdict_14 : decode cn_C_holdVerdict 14 = .ok (.invokevirtual 35, 3) := by decide +kernel
theorem dn_C_holdVerdict_17 : decode cn_C_holdVerdict 17 = .ok (.ifCond .ne 6, 3) := by decide +kernel
theorem dn_C_holdVerdict_20 : decode cn_C_holdVerdict 20 = .ok (.bipush (-2), 2) := by decide +kernel
theorem dn_C_holdVerdict_22 : decode cn_C_holdVerdict 22 = .ok (.ireturn, 1) := by decide +kernel
theorem dn_C_holdVerdict_23 : decode cn_C_holdVerdict 23 = .ok (.aload_n 0, 1) := by decide +kernel
theorem dn_C_holdVerdict_24 : decode cn_C_holdVerdict 24 = .ok (.getfield 9, 3) := by decide +kernel
theorem dn_C_holdVerdict_27 : decode cn_C_holdVerdict 27 = .ok (.iload_n 1, 1) := by decide +kernel
theorem dn_C_holdVerdict_28 : decode cn_C_holdVerdict 28 = .ok (.iaload, 1) := by decide +kernel
theorem dn_C_holdVerdict_29 : decode cn_C_holdVerdict 29 = .ok (.iconst 1, 1) := by decide +kernel
theorem dn_C_holdVerdict_30 : decode cn_C_holdVerdict 30 = .ok (.if_icmp .eq 6, 3) := by decide +kernel
theorem dn_C_holdVerdict_33 : decode cn_C_holdVerdict 33 = .ok (.bipush (-3), 2) := by decide +kernel
theorem dn_C_holdVerdict_35 : decode cn_C_holdVerdict 35 = .ok (.ireturn, 1) := by decide +kernel
theorem dn_C_holdVerdict_36 : decode cn_C_holdVerdict 36 = .ok (.aload_n 0, 1) := by decide +kernel
theorem dn_C_holdVerdict_37 : decode cn_C_holdVerdict 37 = .ok (.getfield 18, 3) := by decide +kernel
theorem dn_C_holdVerdict_40 : decode cn_C_holdVerdict 40 = .ok (.iload_n 1, 1) := by decide +kernel
theorem dn_C_holdVerdict_41 : decode cn_C_holdVerdict 41 = .ok (.iaload, 1) := by decide +kernel
theorem dn_C_holdVerdict_42 : decode cn_C_holdVerdict 42 = .ok (.iconst 1, 1) := by decide +kernel
theorem dn_C_holdVerdict_43 : decode cn_C_holdVerdict 43 = .ok (.iload_n 2, 1) := by decide +kernel
theorem dn_C_holdVerdict_44 : decode cn_C_holdVerdict 44 = .ok (.ishl, 1) := by decide +kernel
theorem dn_C_holdVerdict_45 : decode cn_C_holdVerdict 45 = .ok (.iand, 1) := by decide +kernel
theorem dn_C_holdVerdict_46 : decode cn_C_holdVerdict 46 = .ok (.ifCond .eq 7, 3) := by decide +kernel
theorem dn_C_holdVerdict_49 : decode cn_C_holdVerdict 49 = .ok (.iconst 1, 1) := by decide +kernel
theorem dn_C_holdVerdict_50 : decode cn_C_holdVerdict 50 = .ok (.goto 4, 3) := by decide +kernel
theorem dn_C_holdVerdict_53 : decode cn_C_holdVerdict 53 = .ok (.iconst 0, 1) := by decide +kernel
theorem dn_C_holdVerdict_54 : decode cn_C_holdVerdict 54 = .ok (.istore 4, 2) := by decide +kernel
theorem dn_C_holdVerdict_56 : decode cn_C_holdVerdict 56 = .ok (.iload 4, 2) := by decide +kernel
theorem dn_C_holdVerdict_58 : decode cn_C_holdVerdict 58 = .ok (.iload_n 3, 1) := by decide +kernel
theorem dn_C_holdVerdict_59 : decode cn_C_holdVerdict 59 = .ok (.if_icmp .ne 8, 3) := by decide +kernel
theorem dn_C_holdVerdict_62 : decode cn_C_holdVerdict 62 = .ok (.bipush (-5), 2) := by decide +kernel
theorem dn_C_holdVerdict_64 : decode cn_C_holdVerdict 64 = .ok (.goto 4, 3) := by decide +kernel
theorem dn_C_holdVerdict_67 : decode cn_C_holdVerdict 67 = .ok (.iconst 0, 1) := by decide +kernel
theorem dn_C_holdVerdict_68 : decode cn_C_holdVerdict 68 = .ok (.ireturn, 1) := by decide +kernel
theorem dn_C_endVerdict_0 : decode cn_C_endVerdict 0 = .ok (.aload_n 0, 1) := by decide +kernel
theorem dn_C_endVerdict_1 : decode cn_C_endVerdict 1 = .ok (.iload_n 1, 1) := by decide +kernel
theorem dn_C_endVerdict_2 : decode cn_C_endVerdict 2 = .ok (.invokevirtual 35, 3) := by decide +kernel
theorem dn_C_endVerdict_5 : decode cn_C_endVerdict 5 = .ok (.ifCond .ne 6, 3) := by decide +kernel
theorem dn_C_endVerdict_8 : decode cn_C_endVerdict 8 = .ok (.bipush (-2), 2) := by decide +kernel
theorem dn_C_endVerdict_10 : decode cn_C_endVerdict 10 = .ok (.ireturn, 1) := by decide +kernel
theorem dn_C_endVerdict_11 : decode cn_C_endVerdict 11 = .ok (.iload_n 2, 1) := by decide +kernel
theorem dn_C_endVerdict_12 : decode cn_C_endVerdict 12 = .ok (.ifCond .eq 6, 3) := by decide +kernel
theorem dn_C_endVerdict_15 : decode cn_C_endVerdict 15 = .ok (.bipush (-3), 2) := by decide +kernel
theorem dn_C_endVerdict_17 : decode cn_C_endVerdict 17 = .ok (.ireturn, 1) := by decide +kernel
theorem dn_C_endVerdict_18 : decode cn_C_endVerdict 18 = .ok (.aload_n 0, 1) := by decide +kernel
theorem dn_C_endVerdict_19 : decode cn_C_endVerdict 19 = .ok (.getfield 18, 3) := by decide +kernel
theorem dn_C_endVerdict_22 : decode cn_C_endVerdict 22 = .ok (.iload_n 1, 1) := by decide +kernel
theorem dn_C_endVerdict_23 : decode cn_C_endVerdict 23 = .ok (.iaload, 1) := by decide +kernel
theorem dn_C_endVerdict_24 : decode cn_C_endVerdict 24 = .ok (.ifCond .eq 6, 3) := by decide +kernel
theorem dn_C_endVerdict_27 : decode cn_C_endVerdict 27 = .ok (.bipush (-6), 2) := by decide +kernel
theorem dn_C_endVerdict_29 : decode cn_C_endVerdict 29 = .ok (.ireturn, 1) := by decide +kernel
theorem dn_C_endVerdict_30 : decode cn_C_endVerdict 30 = .ok (.iload_n 3, 1) := by decide +kernel
theorem dn_C_endVerdict_31 : decode cn_C_endVerdict 31 = .ok (.aload_n 0, 1) := by decide +kernel
theorem dn_C_endVerdict_32 : decode cn_C_endVerdict 32 = .ok (.getfield 15, 3) := by decide +kernel
theorem dn_C_endVerdict_35 : decode cn_C_endVerdict 35 = .ok (.iload_n 1, 1) := by decide +kernel
theorem dn_C_endVerdict_36 : decode cn_C_endVerdict 36 = .ok (.iaload, 1) := by decide +kernel
theorem dn_C_endVerdict_37 : decode cn_C_endVerdict 37 = .ok (.if_icmp .ge 8, 3) := by decide +kernel
theorem dn_C_endVerdict_40 : decode cn_C_endVerdict 40 = .ok (.bipush (-7), 2) := by decide +kernel
theorem dn_C_endVerdict_42 : decode cn_C_endVerdict 42 = .ok (.goto 4, 3) := by decide +kernel
theorem dn_C_endVerdict_45 : decode cn_C_endVerdict 45 = .ok (.iconst 0, 1) := by decide +kernel
theorem dn_C_endVerdict_46 : decode cn_C_endVerdict 46 = .ok (.ireturn, 1) := by decide +kernel
theorem dn_C_verdictOfKind_0 : decode cn_C_verdictOfKind 0 = .ok (.iload_n 1, 1) := by decide +kernel
theorem dn_C_verdictOfKind_1 : decode cn_C_verdictOfKind 1 = .ok (.tableswitch 114 1 6 #[39, 47, 54, 62, 70, 92], 39) := by decide +kernel
theorem dn_C_verdictOfKind_40 : decode cn_C_verdictOfKind 40 = .ok (.aload_n 0, 1) := by decide +kernel
theorem dn_C_verdictOfKind_41 : decode cn_C_verdictOfKind 41 = .ok (.iload_n 3, 1) := by decide +kernel
theorem dn_C_verdictOfKind_42 : decode cn_C_verdictOfKind 42 = .ok (.iload 4, 2) := by decide +kernel
theorem dn_C_verdictOfKind_44 : decode cn_C_verdictOfKind 44 = .ok (.invokevirtual 43, 3) := by decide +kernel
theorem dn_C_verdictOfKind_47 : decode cn_C_verdictOfKind 47 = .ok (.ireturn, 1) := by decide +kernel
theorem dn_C_verdictOfKind_48 : decode cn_C_verdictOfKind 48 = .ok (.aload_n 0, 1) := by decide +kernel
theorem dn_C_verdictOfKind_49 : decode cn_C_verdictOfKind 49 = .ok (.iload_n 2, 1) := by decide +kernel
theorem dn_C_verdictOfKind_50 : decode cn_C_verdictOfKind 50 = .ok (.iload_n 3, 1) := by decide +kernel
theorem dn_C_verdictOfKind_51 : decode cn_C_verdictOfKind 51 = .ok (.invokevirtual 47, 3) := by decide +kernel
theorem dn_C_verdictOfKind_54 : decode cn_C_verdictOfKind 54 = .ok (.ireturn, 1) := by decide +kernel
theorem dn_C_verdictOfKind_55 : decode cn_C_verdictOfKind 55 = .ok (.aload_n 0, 1) := by decide +kernel
theorem dn_C_verdictOfKind_56 : decode cn_C_verdictOfKind 56 = .ok (.iload_n 2, 1) := by decide +kernel
theorem dn_C_verdictOfKind_57 : decode cn_C_verdictOfKind 57 = .ok (.iload_n 3, 1) := by decide +kernel
theorem dn_C_verdictOfKind_58 : decode cn_C_verdictOfKind 58 = .ok (.iconst 1, 1) := by decide +kernel
theorem dn_C_verdictOfKind_59 : decode cn_C_verdictOfKind 59 = .ok (.invokevirtual 50, 3) := by decide +kernel
theorem dn_C_verdictOfKind_62 : decode cn_C_verdictOfKind 62 = .ok (.ireturn, 1) := by decide +kernel
theorem dn_C_verdictOfKind_63 : decode cn_C_verdictOfKind 63 = .ok (.aload_n 0, 1) := by decide +kernel
theorem dn_C_verdictOfKind_64 : decode cn_C_verdictOfKind 64 = .ok (.iload_n 2, 1) := by decide +kernel
theorem dn_C_verdictOfKind_65 : decode cn_C_verdictOfKind 65 = .ok (.iload_n 3, 1) := by decide +kernel
theorem dn_C_verdictOfKind_66 : decode cn_C_verdictOfKind 66 = .ok (.iconst 0, 1) := by decide +kernel
theorem dn_C_verdictOfKind_67 : decode cn_C_verdictOfKind 67 = .ok (.invokevirtual 50, 3) := by decide +kernel
theorem dn_C_verdictOfKind_70 : decode cn_C_verdictOfKind 70 = .ok (.ireturn, 1) := by decide +kernel
theorem dn_C_verdictOfKind_71 : decode cn_C_verdictOfKind 71 = .ok (.aload_n 0, 1) := by decide +kernel
theorem dn_C_verdictOfKind_72 : decode cn_C_verdictOfKind 72 = .ok (.iload_n 2, 1) := by decide +kernel
theorem dn_C_verdictOfKind_73 : decode cn_C_verdictOfKind 73 = .ok (.aload_n 0, 1) := by decide +kernel
theorem dn_C_verdictOfKind_74 : decode cn_C_verdictOfKind 74 = .ok (.iload_n 2, 1) := by decide +kernel
theorem dn_C_verdictOfKind_75 : decode cn_C_verdictOfKind 75 = .ok (.invokevirtual 31, 3) := by decide +kernel
theorem dn_C_verdictOfKind_78 : decode cn_C_verdictOfKind 78 = .ok (.iconst 1, 1) := by decide +kernel
theorem dn_C_verdictOfKind_79 : decode cn_C_verdictOfKind 79 = .ok (.if_icmp .eq 7, 3) := by decide +kernel
theorem dn_C_verdictOfKind_82 : decode cn_C_verdictOfKind 82 = .ok (.iconst 1, 1) := by decide +kernel
theorem dn_C_verdictOfKind_83 : decode cn_C_verdictOfKind 83 = .ok (.goto 4, 3) := by decide +kernel
theorem dn_C_verdictOfKind_86 : decode cn_C_verdictOfKind 86 = .ok (.iconst 0, 1) := by decide +kernel
theorem dn_C_verdictOfKind_87 : decode cn_C_verdictOfKind 87 = .ok (.iload 4, 2) := by decide +kernel
theorem dn_C_verdictOfKind_89 : decode cn_C_verdictOfKind 89 = .ok (.invokevirtual 54, 3) := by decide +kernel
theorem dn_C_verdictOfKind_92 : decode cn_C_verdictOfKind 92 = .ok (.ireturn, 1) := by decide +kernel
theorem dn_C_verdictOfKind_93 : decode cn_C_verdictOfKind 93 = .ok (.aload_n 0, 1) := by decide +kernel
theorem dn_C_verdictOfKind_94 : decode cn_C_verdictOfKind 94 = .ok (.iload_n 2, 1) := by decide +kernel
theorem dn_C_verdictOfKind_95 : decode cn_C_verdictOfKind 95 = .ok (.aload_n 0, 1) := by decide +kernel
theorem dn_C_verdictOfKind_96 : decode cn_C_verdictOfKind 96 = .ok (.iload_n 2, 1) := by decide +kernel
theorem dn_C_verdictOfKind_97 : decode cn_C_verdictOfKind 97 = .ok (.invokevirtual 31, 3) := by decide +kernel
theorem dn_C_verdictOfKind_100 : decode cn_C_verdictOfKind 100 = .ok (.iconst 3, 1) := by decide +kernel
theorem dn_C_verdictOfKind_101 : decode cn_C_verdictOfKind 101 = .ok (.if_icmp .ne 7, 3) := by decide +kernel
theorem dn_C_verdictOfKind_104 : decode cn_C_verdictOfKind 104 = .ok (.iconst 1, 1) := by decide +kernel
theorem dn_C_verdictOfKind_105 : decode cn_C_verdictOfKind 105 = .ok (.goto 4, 3) := by decide +kernel
theorem dn_C_verdictOfKind_108 : decode cn_C_verdictOfKind 108 = .ok (.iconst 0, 1) := by decide +kernel
theorem dn_C_verdictOfKind_109 : decode cn_C_verdictOfKind 109 = .ok (.iload 4, 2) := by decide +kernel
theorem dn_C_verdictOfKind_111 : decode cn_C_verdictOfKind 111 = .ok (.invokevirtual 54, 3) := by decide +kernel
theorem dn_C_verdictOfKind_114 : decode cn_C_verdictOfKind 114 = .ok (.ireturn, 1) := by decide +kernel
theorem dn_C_verdictOfKind_115 : decode cn_C_verdictOfKind 115 = .ok (.iconst (-1), 1) := by decide +kernel
theorem dn_C_verdictOfKind_116 : decode cn_C_verdictOfKind 116 = .ok (.ireturn, 1) := by decide +kernel
theorem dn_C_verdict_0 : decode cn_C_verdict 0 = .ok (.aload_n 0, 1) := by decide +kernel
theorem dn_C_verdict_1 : decode cn_C_verdict 1 = .ok (.iload_n 1, 1) := by decide +kernel
theorem dn_C_verdict_2 : decode cn_C_verdict 2 = .ok (.iload_n 2, 1) := by decide +kernel
theorem dn_C_verdict_3 : decode cn_C_verdict 3 = .ok (.iload_n 3, 1) := by decide +kernel
theorem dn_C_verdict_4 : decode cn_C_verdict 4 = .ok (.iload 4, 2) := by decide +kernel
theorem dn_C_verdict_6 : decode cn_C_verdict 6 = .ok (.invokevirtual 39, 3) := by decide +kernel
theorem dn_C_verdict_9 : decode cn_C_verdict 9 = .ok (.istore 5, 2) := by decide +kernel
theorem dn_C_verdict_11 : decode cn_C_verdict 11 = .ok (.iload 5, 2) := by decide +kernel
theorem dn_C_verdict_13 : decode cn_C_verdict 13 = .ok (.ifCond .ne 15, 3) := by decide +kernel
theorem dn_C_verdict_16 : decode cn_C_verdict 16 = .ok (.aload_n 0, 1) := by decide +kernel
theorem dn_C_verdict_17 : decode cn_C_verdict 17 = .ok (.getfield 28, 3) := by decide +kernel
theorem dn_C_verdict_20 : decode cn_C_verdict 20 = .ok (.bipush 40, 2) := by decide +kernel
theorem dn_C_verdict_22 : decode cn_C_verdict 22 = .ok (.if_icmp .lt 6, 3) := by decide +kernel
theorem dn_C_verdict_25 : decode cn_C_verdict 25 = .ok (.bipush (-8), 2) := by decide +kernel
theorem dn_C_verdict_27 : decode cn_C_verdict 27 = .ok (.ireturn, 1) := by decide +kernel
theorem dn_C_verdict_28 : decode cn_C_verdict 28 = .ok (.iload 5, 2) := by decide +kernel
theorem dn_C_verdict_30 : decode cn_C_verdict 30 = .ok (.ireturn, 1) := by decide +kernel
theorem dn_C_addObject_0 : decode cn_C_addObject 0 = .ok (.aload_n 0, 1) := by decide +kernel
theorem dn_C_addObject_1 : decode cn_C_addObject 1 = .ok (.getfield 24, 3) := by decide +kernel
theorem dn_C_addObject_4 : decode cn_C_addObject 4 = .ok (.bipush 12, 2) := by decide +kernel
theorem dn_C_addObject_6 : decode cn_C_addObject 6 = .ok (.if_icmp .lt 4, 3) := by decide +kernel
theorem dn_C_addObject_9 : decode cn_C_addObject 9 = .ok (.return_, 1) := by decide +kernel
theorem dn_C_addObject_10 : decode cn_C_addObject 10 = .ok (.aload_n 0, 1) := by decide +kernel
theorem dn_C_addObject_11 : decode cn_C_addObject 11 = .ok (.dup, 1) := by decide +kernel
theorem dn_C_addObject_12 : decode cn_C_addObject 12 = .ok (.getfield 24, 3) := by decide +kernel
theorem dn_C_addObject_15 : decode cn_C_addObject 15 = .ok (.iconst 1, 1) := by decide +kernel
theorem dn_C_addObject_16 : decode cn_C_addObject 16 = .ok (.iadd, 1) := by decide +kernel
theorem dn_C_addObject_17 : decode cn_C_addObject 17 = .ok (.putfield 24, 3) := by decide +kernel
theorem dn_C_addObject_20 : decode cn_C_addObject 20 = .ok (.aload_n 0, 1) := by decide +kernel
theorem dn_C_addObject_21 : decode cn_C_addObject 21 = .ok (.getfield 9, 3) := by decide +kernel
theorem dn_C_addObject_24 : decode cn_C_addObject 24 = .ok (.aload_n 0, 1) := by decide +kernel
theorem dn_C_addObject_25 : decode cn_C_addObject 25 = .ok (.getfield 24, 3) := by decide +kernel
theorem dn_C_addObject_28 : decode cn_C_addObject 28 = .ok (.iconst 1, 1) := by decide +kernel
theorem dn_C_addObject_29 : decode cn_C_addObject 29 = .ok (.iastore, 1) := by decide +kernel
theorem dn_C_addObject_30 : decode cn_C_addObject 30 = .ok (.aload_n 0, 1) := by decide +kernel
theorem dn_C_addObject_31 : decode cn_C_addObject 31 = .ok (.getfield 15, 3) := by decide +kernel
theorem dn_C_addObject_34 : decode cn_C_addObject 34 = .ok (.aload_n 0, 1) := by decide +kernel
theorem dn_C_addObject_35 : decode cn_C_addObject 35 = .ok (.getfield 24, 3) := by decide +kernel
theorem dn_C_addObject_38 : decode cn_C_addObject 38 = .ok (.iload_n 1, 1) := by decide +kernel
theorem dn_C_addObject_39 : decode cn_C_addObject 39 = .ok (.iastore, 1) := by decide +kernel
theorem dn_C_addObject_40 : decode cn_C_addObject 40 = .ok (.aload_n 0, 1) := by decide +kernel
theorem dn_C_addObject_41 : decode cn_C_addObject 41 = .ok (.getfield 18, 3) := by decide +kernel
theorem dn_C_addObject_44 : decode cn_C_addObject 44 = .ok (.aload_n 0, 1) := by decide +kernel
theorem dn_C_addObject_45 : decode cn_C_addObject 45 = .ok (.getfield 24, 3) := by decide +kernel
theorem dn_C_addObject_48 : decode cn_C_addObject 48 = .ok (.iconst 0, 1) := by decide +kernel
theorem dn_C_addObject_49 : decode cn_C_addObject 49 = .ok (.iastore, 1) := by decide +kernel
theorem dn_C_addObject_50 : decode cn_C_addObject 50 = .ok (.aload_n 0, 1) := by decide +kernel
theorem dn_C_addObject_51 : decode cn_C_addObject 51 = .ok (.getfield 21, 3) := by decide +kernel
theorem dn_C_addObject_54 : decode cn_C_addObject 54 = .ok (.aload_n 0, 1) := by decide +kernel
theorem dn_C_addObject_55 : decode cn_C_addObject 55 = .ok (.getfield 24, 3) := by decide +kernel
theorem dn_C_addObject_58 : decode cn_C_addObject 58 = .ok (.aload_n 0, 1) := by decide +kernel
theorem dn_C_addObject_59 : decode cn_C_addObject 59 = .ok (.getfield 28, 3) := by decide +kernel
theorem dn_C_addObject_62 : decode cn_C_addObject 62 = .ok (.iastore, 1) := by decide +kernel
theorem dn_C_addObject_63 : decode cn_C_addObject 63 = .ok (.return_, 1) := by decide +kernel
theorem dn_C_changeObject_0 : decode cn_C_changeObject 0 = .ok (.iload_n 1, 1) := by decide +kernel
theorem dn_C_changeObject_1 : decode cn_C_changeObject 1 = .ok (.tableswitch 97 2 6 #[35, 45, 60, 77, 87], 35) := by decide +kernel
theorem dn_C_changeObject_36 : decode cn_C_changeObject 36 = .ok (.aload_n 0, 1) := by decide +kernel
theorem dn_C_changeObject_37 : decode cn_C_changeObject 37 = .ok (.getfield 15, 3) := by decide +kernel
theorem dn_C_changeObject_40 : decode cn_C_changeObject 40 = .ok (.iload_n 2, 1) := by decide +kernel
theorem dn_C_changeObject_41 : decode cn_C_changeObject 41 = .ok (.iload_n 3, 1) := by decide +kernel
theorem dn_C_changeObject_42 : decode cn_C_changeObject 42 = .ok (.iastore, 1) := by decide +kernel
theorem dn_C_changeObject_43 : decode cn_C_changeObject 43 = .ok (.goto 55, 3) := by decide +kernel
theorem dn_C_changeObject_46 : decode cn_C_changeObject 46 = .ok (.aload_n 0, 1) := by decide +kernel
theorem dn_C_changeObject_47 : decode cn_C_changeObject 47 = .ok (.getfield 18, 3) := by decide +kernel
theorem dn_C_changeObject_50 : decode cn_C_changeObject 50 = .ok (.iload_n 2, 1) := by decide +kernel
theorem dn_C_changeObject_51 : decode cn_C_changeObject 51 = .ok (.dup2, 1) := by decide +kernel
theorem dn_C_changeObject_52 : decode cn_C_changeObject 52 = .ok (.iaload, 1) := by decide +kernel
theorem dn_C_changeObject_53 : decode cn_C_changeObject 53 = .ok (.iconst 1, 1) := by decide +kernel
theorem dn_C_changeObject_54 : decode cn_C_changeObject 54 = .ok (.iload_n 3, 1) := by decide +kernel
theorem dn_C_changeObject_55 : decode cn_C_changeObject 55 = .ok (.ishl, 1) := by decide +kernel
theorem dn_C_changeObject_56 : decode cn_C_changeObject 56 = .ok (.ior, 1) := by decide +kernel
theorem dn_C_changeObject_57 : decode cn_C_changeObject 57 = .ok (.iastore, 1) := by decide +kernel
theorem dn_C_changeObject_58 : decode cn_C_changeObject 58 = .ok (.goto 40, 3) := by decide +kernel
theorem dn_C_changeObject_61 : decode cn_C_changeObject 61 = .ok (.aload_n 0, 1) := by decide +kernel
theorem dn_C_changeObject_62 : decode cn_C_changeObject 62 = .ok (.getfield 18, 3) := by decide +kernel
theorem dn_C_changeObject_65 : decode cn_C_changeObject 65 = .ok (.iload_n 2, 1) := by decide +kernel
theorem dn_C_changeObject_66 : decode cn_C_changeObject 66 = .ok (.dup2, 1) := by decide +kernel
theorem dn_C_changeObject_67 : decode cn_C_changeObject 67 = .ok (.iaload, 1) := by decide +kernel
theorem dn_C_changeObject_68 : decode cn_C_changeObject 68 = .ok (.iconst 1, 1) := by decide +kernel
theorem dn_C_changeObject_69 : decode cn_C_changeObject 69 = .ok (.iload_n 3, 1) := by decide +kernel
theorem dn_C_changeObject_70 : decode cn_C_changeObject 70 = .ok (.ishl, 1) := by decide +kernel
theorem dn_C_changeObject_71 : decode cn_C_changeObject 71 = .ok (.iconst (-1), 1) := by decide +kernel
theorem dn_C_changeObject_72 : decode cn_C_changeObject 72 = .ok (.ixor, 1) := by decide +kernel
theorem dn_C_changeObject_73 : decode cn_C_changeObject 73 = .ok (.iand, 1) := by decide +kernel
theorem dn_C_changeObject_74 : decode cn_C_changeObject 74 = .ok (.iastore, 1) := by decide +kernel
theorem dn_C_changeObject_75 : decode cn_C_changeObject 75 = .ok (.goto 23, 3) := by decide +kernel
theorem dn_C_changeObject_78 : decode cn_C_changeObject 78 = .ok (.aload_n 0, 1) := by decide +kernel
theorem dn_C_changeObject_79 : decode cn_C_changeObject 79 = .ok (.getfield 9, 3) := by decide +kernel
theorem dn_C_changeObject_82 : decode cn_C_changeObject 82 = .ok (.iload_n 2, 1) := by decide +kernel
theorem dn_C_changeObject_83 : decode cn_C_changeObject 83 = .ok (.iconst 2, 1) := by decide +kernel
theorem dn_C_changeObject_84 : decode cn_C_changeObject 84 = .ok (.iastore, 1) := by decide +kernel
theorem dn_C_changeObject_85 : decode cn_C_changeObject 85 = .ok (.goto 13, 3) := by decide +kernel
theorem dn_C_changeObject_88 : decode cn_C_changeObject 88 = .ok (.aload_n 0, 1) := by decide +kernel
theorem dn_C_changeObject_89 : decode cn_C_changeObject 89 = .ok (.getfield 9, 3) := by decide +kernel
theorem dn_C_changeObject_92 : decode cn_C_changeObject 92 = .ok (.iload_n 2, 1) := by decide +kernel
theorem dn_C_changeObject_93 : decode cn_C_changeObject 93 = .ok (.iconst 3, 1) := by decide +kernel
theorem dn_C_changeObject_94 : decode cn_C_changeObject 94 = .ok (.iastore, 1) := by decide +kernel
theorem dn_C_changeObject_95 : decode cn_C_changeObject 95 = .ok (.goto 3, 3) := by decide +kernel
theorem dn_C_changeObject_98 : decode cn_C_changeObject 98 = .ok (.return_, 1) := by decide +kernel
theorem dn_C_enter_0 : decode cn_C_enter 0 = .ok (.iload_n 1, 1) := by decide +kernel
theorem dn_C_enter_1 : decode cn_C_enter 1 = .ok (.iconst 1, 1) := by decide +kernel
theorem dn_C_enter_2 : decode cn_C_enter 2 = .ok (.if_icmp .ne 11, 3) := by decide +kernel
theorem dn_C_enter_5 : decode cn_C_enter 5 = .ok (.aload_n 0, 1) := by decide +kernel
theorem dn_C_enter_6 : decode cn_C_enter 6 = .ok (.iload_n 3, 1) := by decide +kernel
theorem dn_C_enter_7 : decode cn_C_enter 7 = .ok (.invokevirtual 62, 3) := by decide +kernel
theorem dn_C_enter_10 : decode cn_C_enter 10 = .ok (.goto 18, 3) := by decide +kernel
theorem dn_C_enter_13 : decode cn_C_enter 13 = .ok (.aload_n 0, 1) := by decide +kernel
theorem dn_C_enter_14 : decode cn_C_enter 14 = .ok (.iload_n 2, 1) := by decide +kernel
theorem dn_C_enter_15 : decode cn_C_enter 15 = .ok (.invokevirtual 35, 3) := by decide +kernel
theorem dn_C_enter_18 : decode cn_C_enter 18 = .ok (.ifCond .eq 10, 3) := by decide +kernel
theorem dn_C_enter_21 : decode cn_C_enter 21 = .ok (.aload_n 0, 1) := by decide +kernel
theorem dn_C_enter_22 : decode cn_C_enter 22 = .ok (.iload_n 1, 1) := by decide +kernel
theorem dn_C_enter_23 : decode cn_C_enter 23 = .ok (.iload_n 2, 1) := by decide +kernel
theorem dn_C_enter_24 : decode cn_C_enter 24 = .ok (.iload_n 3, 1) := by decide +kernel
theorem dn_C_enter_25 : decode cn_C_enter 25 = .ok (.invokevirtual 66, 3) := by decide +kernel
theorem dn_C_enter_28 : decode cn_C_enter 28 = .ok (.aload_n 0, 1) := by decide +kernel
theorem dn_C_enter_29 : decode cn_C_enter 29 = .ok (.dup, 1) := by decide +kernel
theorem dn_C_enter_30 : decode cn_C_enter 30 = .ok (.getfield 28, 3) := by decide +kernel
theorem dn_C_enter_33 : decode cn_C_enter 33 = .ok (.iconst 1, 1) := by decide +kernel
theorem dn_C_enter_34 : decode cn_C_enter 34 = .ok (.iadd, 1) := by decide +kernel
theorem dn_C_enter_35 : decode cn_C_enter 35 = .ok (.putfield 28, 3) := by decide +kernel
theorem dn_C_enter_38 : decode cn_C_enter 38 = .ok (.return_, 1) := by decide +kernel
theorem dn_C_isTimely_0 : decode cn_C_isTimely 0 = .ok (.aload_n 0, 1) := by decide +kernel
theorem dn_C_isTimely_1 : decode cn_C_isTimely 1 = .ok (.iload_n 1, 1) := by decide +kernel
theorem dn_C_isTimely_2 : decode cn_C_isTimely 2 = .ok (.iconst 5, 1) := by decide +kernel
theorem dn_C_isTimely_3 : decode cn_C_isTimely 3 = .ok (.invokevirtual 76, 3) := by decide +kernel
theorem dn_C_isTimely_6 : decode cn_C_isTimely 6 = .ok (.istore_n 3, 1) := by decide +kernel
theorem dn_C_isTimely_7 : decode cn_C_isTimely 7 = .ok (.iload_n 1, 1) := by decide +kernel
theorem dn_C_isTimely_8 : decode cn_C_isTimely 8 = .ok (.ifCond .ne 7, 3) := by decide +kernel
theorem dn_C_isTimely_11 : decode cn_C_isTimely 11 = .ok (.iconst 0, 1) := by decide +kernel
theorem dn_C_isTimely_12 : decode cn_C_isTimely 12 = .ok (.goto 11, 3) := by decide +kernel
theorem dn_C_isTimely_15 : decode cn_C_isTimely 15 = .ok (.aload_n 0, 1) := by decide +kernel
theorem dn_C_isTimely_16 : decode cn_C_isTimely 16 = .ok (.iload_n 1, 1) := by decide +kernel
theorem dn_C_isTimely_17 : decode cn_C_isTimely 17 = .ok (.iconst 1, 1) := by decide +kernel
theorem dn_C_isTimely_18 : decode cn_C_isTimely 18 = .ok (.isub, 1) := by decide +kernel
theorem dn_C_isTimely_19 : decode cn_C_isTimely 19 = .ok (.iconst 5, 1) := by decide +kernel
theorem dn_C_isTimely_20 : decode cn_C_isTimely 20 = .ok (.invokevirtual 76, 3) := by decide +kernel
theorem dn_C_isTimely_23 : decode cn_C_isTimely 23 = .ok (.istore 4, 2) := by decide +kernel
theorem dn_C_isTimely_25 : decode cn_C_isTimely 25 = .ok (.iload 4, 2) := by decide +kernel
theorem dn_C_isTimely_27 : decode cn_C_isTimely 27 = .ok (.iload_n 3, 1) := by decide +kernel
theorem dn_C_isTimely_28 : decode cn_C_isTimely 28 = .ok (.if_icmp .gt 12, 3) := by decide +kernel
theorem dn_C_isTimely_31 : decode cn_C_isTimely 31 = .ok (.iload_n 3, 1) := by decide +kernel
theorem dn_C_isTimely_32 : decode cn_C_isTimely 32 = .ok (.iload_n 2, 1) := by decide +kernel
theorem dn_C_isTimely_33 : decode cn_C_isTimely 33 = .ok (.if_icmp .gt 7, 3) := by decide +kernel
theorem dn_C_isTimely_36 : decode cn_C_isTimely 36 = .ok (.iconst 1, 1) := by decide +kernel
theorem dn_C_isTimely_37 : decode cn_C_isTimely 37 = .ok (.goto 4, 3) := by decide +kernel
theorem dn_C_isTimely_40 : decode cn_C_isTimely 40 = .ok (.iconst 0, 1) := by decide +kernel
theorem dn_C_isTimely_41 : decode cn_C_isTimely 41 = .ok (.ireturn, 1) := by decide +kernel
theorem dn_C_isWellFormed_0 : decode cn_C_isWellFormed 0 = .ok (.aload_n 1, 1) := by decide +kernel
theorem dn_C_isWellFormed_1 : decode cn_C_isWellFormed 1 = .ok (.iload_n 2, 1) := by decide +kernel
theorem dn_C_isWellFormed_2 : decode cn_C_isWellFormed 2 = .ok (.iconst 0, 1) := by decide +kernel
theorem dn_C_isWellFormed_3 : decode cn_C_isWellFormed 3 = .ok (.invokevirtual 76, 3) := by decide +kernel
theorem dn_C_isWellFormed_6 : decode cn_C_isWellFormed 6 = .ok (.istore_n 3, 1) := by decide +kernel
theorem dn_C_isWellFormed_7 : decode cn_C_isWellFormed 7 = .ok (.iload_n 3, 1) := by decide +kernel
theorem dn_C_isWellFormed_8 : decode cn_C_isWellFormed 8 = .ok (.iconst 1, 1) := by decide +kernel
theorem dn_C_isWellFormed_9 : decode cn_C_isWellFormed 9 = .ok (.if_icmp .ne 22, 3) := by decide +kernel
theorem dn_C_isWellFormed_12 : decode cn_C_isWellFormed 12 = .ok (.aload_n 1, 1) := by decide +kernel
theorem dn_C_isWellFormed_13 : decode cn_C_isWellFormed 13 = .ok (.iload_n 2, 1) := by decide +kernel
theorem dn_C_isWellFormed_14 : decode cn_C_isWellFormed 14 = .ok (.iconst 1, 1) := by decide +kernel
theorem dn_C_isWellFormed_15 : decode cn_C_isWellFormed 15 = .ok (.invokevirtual 76, 3) := by decide +kernel
theorem dn_C_isWellFormed_18 : decode cn_C_isWellFormed 18 = .ok (.aload_n 0, 1) := by decide +kernel
theorem dn_C_isWellFormed_19 : decode cn_C_isWellFormed 19 = .ok (.invokevirtual 95, 3) := by decide +kernel
theorem dn_C_isWellFormed_22 : decode cn_C_isWellFormed 22 = .ok (.if_icmp .ne 7, 3) := by decide +kernel
theorem dn_C_isWellFormed_25 : decode cn_C_isWellFormed 25 = .ok (.iconst 1, 1) := by decide +kernel
theorem dn_C_isWellFormed_26 : decode cn_C_isWellFormed 26 = .ok (.goto 4, 3) := by decide +kernel
theorem dn_C_isWellFormed_29 : decode cn_C_isWellFormed 29 = .ok (.iconst 0, 1) := by decide +kernel
theorem dn_C_isWellFormed_30 : decode cn_C_isWellFormed 30 = .ok (.ireturn, 1) := by decide +kernel
theorem dn_C_isWellFormed_31 : decode cn_C_isWellFormed 31 = .ok (.aload_n 1, 1) := by decide +kernel
theorem dn_C_isWellFormed_32 : decode cn_C_isWellFormed 32 = .ok (.iload_n 2, 1) := by decide +kernel
theorem dn_C_isWellFormed_33 : decode cn_C_isWellFormed 33 = .ok (.iconst 3, 1) := by decide +kernel
theorem dn_C_isWellFormed_34 : decode cn_C_isWellFormed 34 = .ok (.invokevirtual 76, 3) := by decide +kernel
theorem dn_C_isWellFormed_37 : decode cn_C_isWellFormed 37 = .ok (.ifCond .ne 12, 3) := by decide +kernel
theorem dn_C_isWellFormed_40 : decode cn_C_isWellFormed 40 = .ok (.aload_n 1, 1) := by decide +kernel
theorem dn_C_isWellFormed_41 : decode cn_C_isWellFormed 41 = .ok (.iload_n 2, 1) := by decide +kernel
theorem dn_C_isWellFormed_42 : decode cn_C_isWellFormed 42 = .ok (.iconst 4, 1) := by decide +kernel
theorem dn_C_isWellFormed_43 : decode cn_C_isWellFormed 43 = .ok (.invokevirtual 76, 3) := by decide +kernel
theorem dn_C_isWellFormed_46 : decode cn_C_isWellFormed 46 = .ok (.ifCond .eq 5, 3) := by decide +kernel
theorem dn_C_isWellFormed_49 : decode cn_C_isWellFormed 49 = .ok (.iconst 0, 1) := by decide +kernel
theorem dn_C_isWellFormed_50 : decode cn_C_isWellFormed 50 = .ok (.ireturn, 1) := by decide +kernel
theorem dn_C_isWellFormed_51 : decode cn_C_isWellFormed 51 = .ok (.iload_n 3, 1) := by decide +kernel
theorem dn_C_isWellFormed_52 : decode cn_C_isWellFormed 52 = .ok (.iconst 5, 1) := by decide +kernel
theorem dn_C_isWellFormed_53 : decode cn_C_isWellFormed 53 = .ok (.if_icmp .eq 9, 3) := by decide +kernel
theorem dn_C_isWellFormed_56 : decode cn_C_isWellFormed 56 = .ok (.iload_n 3, 1) := by decide +kernel
theorem dn_C_isWellFormed_57 : decode cn_C_isWellFormed 57 = .ok (.bipush 6, 2) := by decide +kernel
theorem dn_C_isWellFormed_59 : decode cn_C_isWellFormed 59 = .ok (.if_icmp .ne 7, 3) := by decide +kernel
theorem dn_C_isWellFormed_62 : decode cn_C_isWellFormed 62 = .ok (.iconst 1, 1) := by decide +kernel
theorem dn_C_isWellFormed_63 : decode cn_C_isWellFormed 63 = .ok (.goto 4, 3) := by decide +kernel
theorem dn_C_isWellFormed_66 : decode cn_C_isWellFormed 66 = .ok (.iconst 0, 1) := by decide +kernel
theorem dn_C_isWellFormed_67 : decode cn_C_isWellFormed 67 = .ok (.istore 4, 2) := by decide +kernel
theorem dn_C_isWellFormed_69 : decode cn_C_isWellFormed 69 = .ok (.iload 4, 2) := by decide +kernel
theorem dn_C_isWellFormed_71 : decode cn_C_isWellFormed 71 = .ok (.ifCond .eq 12, 3) := by decide +kernel
theorem dn_C_isWellFormed_74 : decode cn_C_isWellFormed 74 = .ok (.aload_n 1, 1) := by decide +kernel
theorem dn_C_isWellFormed_75 : decode cn_C_isWellFormed 75 = .ok (.iload_n 2, 1) := by decide +kernel
theorem dn_C_isWellFormed_76 : decode cn_C_isWellFormed 76 = .ok (.iconst 2, 1) := by decide +kernel
theorem dn_C_isWellFormed_77 : decode cn_C_isWellFormed 77 = .ok (.invokevirtual 76, 3) := by decide +kernel
theorem dn_C_isWellFormed_80 : decode cn_C_isWellFormed 80 = .ok (.ifCond .ne 7, 3) := by decide +kernel
theorem dn_C_isWellFormed_83 : decode cn_C_isWellFormed 83 = .ok (.iconst 1, 1) := by decide +kernel
theorem dn_C_isWellFormed_84 : decode cn_C_isWellFormed 84 = .ok (.goto 4, 3) := by decide +kernel
theorem dn_C_isWellFormed_87 : decode cn_C_isWellFormed 87 = .ok (.iconst 0, 1) := by decide +kernel
theorem dn_C_isWellFormed_88 : decode cn_C_isWellFormed 88 = .ok (.ireturn, 1) := by decide +kernel
theorem dn_C_isSoundNext_0 : decode cn_C_isSoundNext 0 = .ok (.aload_n 1, 1) := by decide +kernel
theorem dn_C_isSoundNext_1 : decode cn_C_isSoundNext 1 = .ok (.iload_n 2, 1) := by decide +kernel
theorem dn_C_isSoundNext_2 : decode cn_C_isSoundNext 2 = .ok (.invokevirtual 82, 3) := by decide +kernel
theorem dn_C_isSoundNext_5 : decode cn_C_isSoundNext 5 = .ok (.ifCond .eq 56, 3) := by decide +kernel
theorem dn_C_isSoundNext_8 : decode cn_C_isSoundNext 8 = .ok (.aload_n 1, 1) := by decide +kernel
theorem dn_C_isSoundNext_9 : decode cn_C_isSoundNext 9 = .ok (.iload_n 2, 1) := by decide +kernel
theorem dn_C_isSoundNext_10 : decode cn_C_isSoundNext 10 = .ok (.iload_n 3, 1) := by decide +kernel
theorem dn_C_isSoundNext_11 : decode cn_C_isSoundNext 11 = .ok (.invokestatic 85, 3) := by decide +kernel
theorem dn_C_isSoundNext_14 : decode cn_C_isSoundNext 14 = .ok (.ifCond .eq 47, 3) := by decide +kernel
theorem dn_C_isSoundNext_17 : decode cn_C_isSoundNext 17 = .ok (.aload_n 0, 1) := by decide +kernel
theorem dn_C_isSoundNext_18 : decode cn_C_isSoundNext 18 = .ok (.aload_n 1, 1) := by decide +kernel
theorem dn_C_isSoundNext_19 : decode cn_C_isSoundNext 19 = .ok (.iload_n 2, 1) := by decide +kernel
theorem dn_C_isSoundNext_20 : decode cn_C_isSoundNext 20 = .ok (.invokevirtual 88, 3) := by decide +kernel
theorem dn_C_isSoundNext_23 : decode cn_C_isSoundNext 23 = .ok (.ifCond .eq 38, 3) := by decide +kernel
theorem dn_C_isSoundNext_26 : decode cn_C_isSoundNext 26 = .ok (.aload_n 0, 1) := by decide +kernel
theorem dn_C_isSoundNext_27 : decode cn_C_isSoundNext 27 = .ok (.aload_n 1, 1) := by decide +kernel
theorem dn_C_isSoundNext_28 : decode cn_C_isSoundNext 28 = .ok (.iload_n 2, 1) := by decide +kernel
theorem dn_C_isSoundNext_29 : decode cn_C_isSoundNext 29 = .ok (.iconst 0, 1) := by decide +kernel
theorem dn_C_isSoundNext_30 : decode cn_C_isSoundNext 30 = .ok (.invokevirtual 76, 3) := by decide +kernel
theorem dn_C_isSoundNext_33 : decode cn_C_isSoundNext 33 = .ok (.aload_n 1, 1) := by decide +kernel
theorem dn_C_isSoundNext_34 : decode cn_C_isSoundNext 34 = .ok (.iload_n 2, 1) := by decide +kernel
theorem dn_C_isSoundNext_35 : decode cn_C_isSoundNext 35 = .ok (.iconst 1, 1) := by decide +kernel
theorem dn_C_isSoundNext_36 : decode cn_C_isSoundNext 36 = .ok (.invokevirtual 76, 3) := by decide +kernel
theorem dn_C_isSoundNext_39 : decode cn_C_isSoundNext 39 = .ok (.aload_n 1, 1) := by decide +kernel
theorem dn_C_isSoundNext_40 : decode cn_C_isSoundNext 40 = .ok (.iload_n 2, 1) := by decide +kernel
theorem dn_C_isSoundNext_41 : decode cn_C_isSoundNext 41 = .ok (.iconst 2, 1) := by decide +kernel
theorem dn_C_isSoundNext_42 : decode cn_C_isSoundNext 42 = .ok (.invokevirtual 76, 3) := by decide +kernel
theorem dn_C_isSoundNext_45 : decode cn_C_isSoundNext 45 = .ok (.aload_n 1, 1) := by decide +kernel
theorem dn_C_isSoundNext_46 : decode cn_C_isSoundNext 46 = .ok (.iload_n 2, 1) := by decide +kernel
theorem dn_C_isSoundNext_47 : decode cn_C_isSoundNext 47 = .ok (.iconst 5, 1) := by decide +kernel
theorem dn_C_isSoundNext_48 : decode cn_C_isSoundNext 48 = .ok (.invokevirtual 76, 3) := by decide +kernel
theorem dn_C_isSoundNext_51 : decode cn_C_isSoundNext 51 = .ok (.invokevirtual 92, 3) := by decide +kernel
theorem dn_C_isSoundNext_54 : decode cn_C_isSoundNext 54 = .ok (.ifCond .ne 7, 3) := by decide +kernel
theorem dn_C_isSoundNext_57 : decode cn_C_isSoundNext 57 = .ok (.iconst 1, 1) := by decide +kernel
theorem dn_C_isSoundNext_58 : decode cn_C_isSoundNext 58 = .ok (.goto 4, 3) := by decide +kernel
theorem dn_C_isSoundNext_61 : decode cn_C_isSoundNext 61 = .ok (.iconst 0, 1) := by decide +kernel
theorem dn_C_isSoundNext_62 : decode cn_C_isSoundNext 62 = .ok (.ireturn, 1) := by decide +kernel
theorem dn_C_replay_0 : decode cn_C_replay 0 = .ok (.aload_n 0, 1) := by decide +kernel
theorem dn_C_replay_1 : decode cn_C_replay 1 = .ok (.iconst 0, 1) := by decide +kernel
theorem dn_C_replay_2 : decode cn_C_replay 2 = .ok (.putfield 24, 3) := by decide +kernel
theorem dn_C_replay_5 : decode cn_C_replay 5 = .ok (.aload_n 0, 1) := by decide +kernel
theorem dn_C_replay_6 : decode cn_C_replay 6 = .ok (.iconst 0, 1) := by decide +kernel
theorem dn_C_replay_7 : decode cn_C_replay 7 = .ok (.putfield 28, 3) := by decide +kernel
theorem dn_C_replay_10 : decode cn_C_replay 10 = .ok (.iconst 0, 1) := by decide +kernel
theorem dn_C_replay_11 : decode cn_C_replay 11 = .ok (.istore_n 3, 1) := by decide +kernel
theorem dn_C_replay_12 : decode cn_C_replay 12 = .ok (.iload_n 3, 1) := by decide +kernel
theorem dn_C_replay_13 : decode cn_C_replay 13 = .ok (.bipush 40, 2) := by decide +kernel
theorem dn_C_replay_15 : decode cn_C_replay 15 = .ok (.if_icmp .ge 42, 3) := by decide +kernel
theorem dn_C_replay_18 : decode cn_C_replay 18 = .ok (.aload_n 0, 1) := by decide +kernel
theorem dn_C_replay_19 : decode cn_C_replay 19 = .ok (.aload_n 1, 1) := by decide +kernel
theorem dn_C_replay_20 : decode cn_C_replay 20 = .ok (.iload_n 3, 1) := by decide +kernel
theorem dn_C_replay_21 : decode cn_C_replay 21 = .ok (.iload_n 2, 1) := by decide +kernel
theorem dn_C_replay_22 : decode cn_C_replay 22 = .ok (.invokevirtual 70, 3) := by decide +kernel
theorem dn_C_replay_25 : decode cn_C_replay 25 = .ok (.ifCond .ne 4, 3) := by decide +kernel
theorem dn_C_replay_28 : decode cn_C_replay 28 = .ok (.return_, 1) := by decide +kernel
theorem dn_C_replay_29 : decode cn_C_replay 29 = .ok (.aload_n 0, 1) := by decide +kernel
theorem dn_C_replay_30 : decode cn_C_replay 30 = .ok (.aload_n 1, 1) := by decide +kernel
theorem dn_C_replay_31 : decode cn_C_replay 31 = .ok (.iload_n 3, 1) := by decide +kernel
theorem dn_C_replay_32 : decode cn_C_replay 32 = .ok (.iconst 0, 1) := by decide +kernel
theorem dn_C_replay_33 : decode cn_C_replay 33 = .ok (.invokevirtual 76, 3) := by decide +kernel
theorem dn_C_replay_36 : decode cn_C_replay 36 = .ok (.aload_n 1, 1) := by decide +kernel
theorem dn_C_replay_37 : decode cn_C_replay 37 = .ok (.iload_n 3, 1) := by decide +kernel
theorem dn_C_replay_38 : decode cn_C_replay 38 = .ok (.iconst 1, 1) := by decide +kernel
theorem dn_C_replay_39 : decode cn_C_replay 39 = .ok (.invokevirtual 76, 3) := by decide +kernel
theorem dn_C_replay_42 : decode cn_C_replay 42 = .ok (.aload_n 1, 1) := by decide +kernel
theorem dn_C_replay_43 : decode cn_C_replay 43 = .ok (.iload_n 3, 1) := by decide +kernel
theorem dn_C_replay_44 : decode cn_C_replay 44 = .ok (.iconst 2, 1) := by decide +kernel
theorem dn_C_replay_45 : decode cn_C_replay 45 = .ok (.invokevirtual 76, 3) := by decide +kernel
theorem dn_C_replay_48 : decode cn_C_replay 48 = .ok (.invokevirtual 79, 3) := by decide +kernel
theorem dn_C_replay_51 : decode cn_C_replay 51 = .ok (.iinc 3 1, 3) := by decide +kernel
theorem dn_C_replay_54 : decode cn_C_replay 54 = .ok (.goto (-42), 3) := by decide +kernel
theorem dn_C_replay_57 : decode cn_C_replay 57 = .ok (.return_, 1) := by decide +kernel

set_option maxRecDepth 100000 in
set_option maxHeartbeats 4000000 in
theorem c_C_holdVerdict3 (l : Launch) (dC : Nat → ClassId) (dI : Nat → Nat → Nat) (cI cZ : ClassId) (a0 a1 a2 a3 a4 : Nat) (K : ct_T) (en : Nat) (ho : K.1 ≤ 12) (hG : ∀ j, 1 ≤ j → j ≤ K.1 → ∃ g, g < 256 ∧ K.2.2.2.1 j = nI g) (id v t : Int32) : gc_I l yn_C_holdVerdict (gw yn_C_holdVerdict cn_C_holdVerdict 5 (some .int)) (rm_ 1 21) (dC, dI) vwCl (gT cI cZ) [.ref a0, .int id, .int v, .int 1] [(a0, .inr (0, [.ref a1, .ref a2, .ref a3, .ref a4, .int (nI K.1), .int (nI en)])), (a1, .inl (cI, 13, .inl K.2.1)), (a2, .inl (cI, 13, .inl K.2.2.1)), (a3, .inl (cI, 13, .inl K.2.2.2.1)), (a4, .inl (cI, 13, .inl K.2.2.2.2))] (fun r (_ : Unit) => r = ct_ruC K 3 id v t) (fun _ => [(a0, .inr (0, [.ref a1, .ref a2, .ref a3, .ref a4, .int (nI K.1), .int (nI en)])), (a1, .inl (cI, 13, .inl K.2.1)), (a2, .inl (cI, 13, .inl K.2.2.1)), (a3, .inl (cI, 13, .inl K.2.2.2.1)), (a4, .inl (cI, 13, .inl K.2.2.2.2))]) := by
  refine gc_I_of (cc := cn_C_holdVerdict) (maxL := 5) (ty := .int) (by decide) rfl (Nat.le_of_ble_eq_true rfl) ?_
  intro pp ee ss mm ar be me cd A Q ls H0 H locs hx hb hml hown hts hK hP hD hS hA hl hret
  have hw : ∀ w ∈ gw_T, w.before ar ss = true := fun w h => hts w (List.mem_cons_of_mem _ h)
  have hl : lv_has ls 5 [(0, .ref a0), (1, .int id), (2, .int v), (3, .int 1)] := hl
  refine lv_iload_n hx hb dn_C_holdVerdict_0 rfl (lv_at hl 2 rfl) ?_
  refine lv_if_lt (tgt := 10) hx hb dn_C_holdVerdict_1 (by decide) (fun h1 => ?_) (fun h1 => ?_)
  · skip
    refine lv_iconst (v := (-1)) hx hb dn_C_holdVerdict_10 (by decide) ?_
    exact hret (-1) () _ _ _ _ (ruh_bad (Or.inl rfl) (by first | exact Or.inl h1 | exact Or.inr (Int32.not_le.mp h7))) rfl hP hD hS dn_C_holdVerdict_11
  · skip
    refine lv_iload_n hx hb dn_C_holdVerdict_4 rfl (lv_at hl 2 rfl) ?_
    refine lv_bipush (v := 7) hx hb dn_C_holdVerdict_5 (by decide) ?_
    refine lv_icmp_le (tgt := 12) hx hb dn_C_holdVerdict_7 (by decide) (fun h7 => ?_) (fun h7 => ?_)
    · skip
      refine lv_aload_n hx hb dn_C_holdVerdict_12 rfl (lv_at hl 0 rfl) ?_
      refine lv_iload_n hx hb dn_C_holdVerdict_13 rfl (lv_at hl 1 rfl) ?_
      refine gc_vi (pre := []) (wc := [(a0, .inr (0, [.ref a1, .ref a2, .ref a3, .ref a4, .int (nI K.1), .int (nI en)])), (a1, .inl (cI, 13, .inl K.2.1)), (a2, .inl (cI, 13, .inl K.2.2.1)), (a3, .inl (cI, 13, .inl K.2.2.2.1)), (a4, .inl (cI, 13, .inl K.2.2.2.2))]) (po := []) (As := [.int id]) (rest := []) ⟨hx, hb, hml, hown, hw⟩ (c_C_isThere l dC dI cI cZ a0 a1 a2 a3 a4 K en (by omega) id) (gw_cV 1 hw mw_158 mw_159 mw_160 mw_3 mw_161 hd_C_isThere ⟨Nat.le_of_ble_eq_true rfl, Nat.le_of_ble_eq_true rfl⟩) (ci := 0) rfl rfl rfl hK hP hD hS hA rfl hl.1 rfl (Nat.le_of_ble_eq_true rfl) dn_C_holdVerdict_14 ⟨Nat.zero_le _, Nat.zero_le _⟩ (fun r14 u14 H locs hc14 hP hD hS => ?_)
      have hP : va_P (dC, dI) vwCl [(a0, .inr (0, [.ref a1, .ref a2, .ref a3, .ref a4, .int (nI K.1), .int (nI en)])), (a1, .inl (cI, 13, .inl K.2.1)), (a2, .inl (cI, 13, .inl K.2.2.1)), (a3, .inl (cI, 13, .inl K.2.2.2.1)), (a4, .inl (cI, 13, .inl K.2.2.2.2))] H := hP
      have hD : va_D A [(a0, .inr (0, [.ref a1, .ref a2, .ref a3, .ref a4, .int (nI K.1), .int (nI en)])), (a1, .inl (cI, 13, .inl K.2.1)), (a2, .inl (cI, 13, .inl K.2.2.1)), (a3, .inl (cI, 13, .inl K.2.2.2.1)), (a4, .inl (cI, 13, .inl K.2.2.2.2))] := hD
      rcases hc14 with ⟨rfl, j14, j14a, j14b, rfl⟩ | ⟨rfl, hno14⟩
      · skip
        refine lv_if_ne (tgt := 23) hx hb dn_C_holdVerdict_17 (by decide) (fun _ => ?_) (fun h => absurd h (by decide))
        refine lv_aload_n hx hb dn_C_holdVerdict_23 rfl (lv_at hl 0 rfl) ?_
        refine va_get (D := (dC, dI)) (ci := 0) (v := .ref a1) (C := rn_C) (T := tn_C) (N := 6) hx hb hw ml_C hown hK hP 0 rfl rfl 0 (by decide) (hw _ mw_37) (fun _ h9 => h9) rfl dn_C_holdVerdict_24 ?_
        refine lv_iload_n hx hb dn_C_holdVerdict_27 rfl (lv_at hl 1 rfl) ?_
        refine gr_iald hx hb hK hP 1 0 rfl rfl j14 rfl (by omega) (by decide) dn_C_holdVerdict_28 ?_
        refine lv_iconst (v := 1) hx hb dn_C_holdVerdict_29 (by decide) ?_
        refine lv_icmp_eq (tgt := 36) hx hb dn_C_holdVerdict_30 (by decide) (fun h30 => ?_) (fun h30 => ?_)
        · skip
          refine lv_aload_n hx hb dn_C_holdVerdict_36 rfl (lv_at hl 0 rfl) ?_
          refine va_get (D := (dC, dI)) (ci := 0) (v := .ref a3) (C := rn_C) (T := tn_C) (N := 6) hx hb hw ml_C hown hK hP 0 rfl rfl 2 (by decide) (hw _ mw_39) (fun _ h9 => h9) rfl dn_C_holdVerdict_37 ?_
          refine lv_iload_n hx hb dn_C_holdVerdict_40 rfl (lv_at hl 1 rfl) ?_
          refine gr_iald hx hb hK hP 3 0 rfl rfl j14 rfl (by omega) (by decide) dn_C_holdVerdict_41 ?_
          refine lv_iconst (v := 1) hx hb dn_C_holdVerdict_42 (by decide) ?_
          refine lv_iload_n hx hb dn_C_holdVerdict_43 rfl (lv_at hl 2 rfl) ?_
          refine lv_ishl hx hb dn_C_holdVerdict_44 ?_
          refine lv_iand hx hb dn_C_holdVerdict_45 ?_
          refine lv_if_eq (tgt := 53) hx hb dn_C_holdVerdict_46 (by decide) (fun h46 => ?_) (fun h46 => ?_)
          · skip
            refine lv_iconst (v := 0) hx hb dn_C_holdVerdict_53 (by decide) ?_
            refine lv_istore (lv' := [(4, .int 0), (0, .ref a0), (1, .int (nI j14)), (2, .int v), (3, .int 1)]) hx hb dn_C_holdVerdict_54 hl (by decide) rfl (fun ls hl => ?_)
            refine lv_iload hx hb dn_C_holdVerdict_56 (lv_at hl 0 rfl) ?_
            refine lv_iload_n hx hb dn_C_holdVerdict_58 rfl (lv_at hl 4 rfl) ?_
            refine lv_icmp_ne (tgt := 67) hx hb dn_C_holdVerdict_59 (by decide) (fun _ => ?_) (fun h => absurd h (by decide))
            refine lv_iconst (v := 0) hx hb dn_C_holdVerdict_67 (by decide) ?_
            exact hret 0 () _ _ _ _ (ruh_ok (Or.inl rfl) (fun q => q.elim h1 (Int32.not_lt.mpr h7)) j14a j14b ho h30 (fun q => (ct_hasB (hG _ j14a j14b) (fun q => q.elim h1 (Int32.not_lt.mpr h7))).1 (q.2 rfl) h46)) rfl hP hD hS dn_C_holdVerdict_68
          · skip
            refine lv_iconst (v := 1) hx hb dn_C_holdVerdict_49 (by decide) ?_
            refine lv_goto (tgt := 54) hx hb dn_C_holdVerdict_50 (by decide) ?_
            refine lv_istore (lv' := [(4, .int 1), (0, .ref a0), (1, .int (nI j14)), (2, .int v), (3, .int 1)]) hx hb dn_C_holdVerdict_54 hl (by decide) rfl (fun ls hl => ?_)
            refine lv_iload hx hb dn_C_holdVerdict_56 (lv_at hl 0 rfl) ?_
            refine lv_iload_n hx hb dn_C_holdVerdict_58 rfl (lv_at hl 4 rfl) ?_
            refine lv_icmp_ne (tgt := 67) hx hb dn_C_holdVerdict_59 (by decide) (fun h => absurd h (by decide)) (fun _ => ?_)
            refine lv_bipush (v := (-5)) hx hb dn_C_holdVerdict_62 (by decide) ?_
            refine lv_goto (tgt := 68) hx hb dn_C_holdVerdict_64 (by decide) ?_
            exact hret (-5) () _ _ _ _ (ruh_same (Or.inl rfl) (fun q => q.elim h1 (Int32.not_lt.mpr h7)) j14a j14b ho h30 ⟨fun _ => rfl, fun _ => (ct_hasB (hG _ j14a j14b) (fun q => q.elim h1 (Int32.not_lt.mpr h7))).2 h46⟩) rfl hP hD hS dn_C_holdVerdict_68
        · skip
          refine lv_bipush (v := (-3)) hx hb dn_C_holdVerdict_33 (by decide) ?_
          exact hret (-3) () _ _ _ _ (ruh_gone (Or.inl rfl) (fun q => q.elim h1 (Int32.not_lt.mpr h7)) j14a j14b ho h30) rfl hP hD hS dn_C_holdVerdict_35
      · skip
        refine lv_if_ne (tgt := 23) hx hb dn_C_holdVerdict_17 (by decide) (fun h => absurd h (by decide)) (fun _ => ?_)
        refine lv_bipush (v := (-2)) hx hb dn_C_holdVerdict_20 (by decide) ?_
        exact hret (-2) () _ _ _ _ (ruh_abs (Or.inl rfl) (fun q => q.elim h1 (Int32.not_lt.mpr h7)) hno14) rfl hP hD hS dn_C_holdVerdict_22
    · skip
      refine lv_iconst (v := (-1)) hx hb dn_C_holdVerdict_10 (by decide) ?_
      exact hret (-1) () _ _ _ _ (ruh_bad (Or.inl rfl) (by first | exact Or.inl h1 | exact Or.inr (Int32.not_le.mp h7))) rfl hP hD hS dn_C_holdVerdict_11

set_option maxRecDepth 100000 in
set_option maxHeartbeats 4000000 in
theorem c_C_holdVerdict4 (l : Launch) (dC : Nat → ClassId) (dI : Nat → Nat → Nat) (cI cZ : ClassId) (a0 a1 a2 a3 a4 : Nat) (K : ct_T) (en : Nat) (ho : K.1 ≤ 12) (hG : ∀ j, 1 ≤ j → j ≤ K.1 → ∃ g, g < 256 ∧ K.2.2.2.1 j = nI g) (id v t : Int32) : gc_I l yn_C_holdVerdict (gw yn_C_holdVerdict cn_C_holdVerdict 5 (some .int)) (rm_ 1 21) (dC, dI) vwCl (gT cI cZ) [.ref a0, .int id, .int v, .int 0] [(a0, .inr (0, [.ref a1, .ref a2, .ref a3, .ref a4, .int (nI K.1), .int (nI en)])), (a1, .inl (cI, 13, .inl K.2.1)), (a2, .inl (cI, 13, .inl K.2.2.1)), (a3, .inl (cI, 13, .inl K.2.2.2.1)), (a4, .inl (cI, 13, .inl K.2.2.2.2))] (fun r (_ : Unit) => r = ct_ruC K 4 id v t) (fun _ => [(a0, .inr (0, [.ref a1, .ref a2, .ref a3, .ref a4, .int (nI K.1), .int (nI en)])), (a1, .inl (cI, 13, .inl K.2.1)), (a2, .inl (cI, 13, .inl K.2.2.1)), (a3, .inl (cI, 13, .inl K.2.2.2.1)), (a4, .inl (cI, 13, .inl K.2.2.2.2))]) := by
  refine gc_I_of (cc := cn_C_holdVerdict) (maxL := 5) (ty := .int) (by decide) rfl (Nat.le_of_ble_eq_true rfl) ?_
  intro pp ee ss mm ar be me cd A Q ls H0 H locs hx hb hml hown hts hK hP hD hS hA hl hret
  have hw : ∀ w ∈ gw_T, w.before ar ss = true := fun w h => hts w (List.mem_cons_of_mem _ h)
  have hl : lv_has ls 5 [(0, .ref a0), (1, .int id), (2, .int v), (3, .int 0)] := hl
  refine lv_iload_n hx hb dn_C_holdVerdict_0 rfl (lv_at hl 2 rfl) ?_
  refine lv_if_lt (tgt := 10) hx hb dn_C_holdVerdict_1 (by decide) (fun h1 => ?_) (fun h1 => ?_)
  · skip
    refine lv_iconst (v := (-1)) hx hb dn_C_holdVerdict_10 (by decide) ?_
    exact hret (-1) () _ _ _ _ (ruh_bad (Or.inr rfl) (by first | exact Or.inl h1 | exact Or.inr (Int32.not_le.mp h7))) rfl hP hD hS dn_C_holdVerdict_11
  · skip
    refine lv_iload_n hx hb dn_C_holdVerdict_4 rfl (lv_at hl 2 rfl) ?_
    refine lv_bipush (v := 7) hx hb dn_C_holdVerdict_5 (by decide) ?_
    refine lv_icmp_le (tgt := 12) hx hb dn_C_holdVerdict_7 (by decide) (fun h7 => ?_) (fun h7 => ?_)
    · skip
      refine lv_aload_n hx hb dn_C_holdVerdict_12 rfl (lv_at hl 0 rfl) ?_
      refine lv_iload_n hx hb dn_C_holdVerdict_13 rfl (lv_at hl 1 rfl) ?_
      refine gc_vi (pre := []) (wc := [(a0, .inr (0, [.ref a1, .ref a2, .ref a3, .ref a4, .int (nI K.1), .int (nI en)])), (a1, .inl (cI, 13, .inl K.2.1)), (a2, .inl (cI, 13, .inl K.2.2.1)), (a3, .inl (cI, 13, .inl K.2.2.2.1)), (a4, .inl (cI, 13, .inl K.2.2.2.2))]) (po := []) (As := [.int id]) (rest := []) ⟨hx, hb, hml, hown, hw⟩ (c_C_isThere l dC dI cI cZ a0 a1 a2 a3 a4 K en (by omega) id) (gw_cV 1 hw mw_158 mw_159 mw_160 mw_3 mw_161 hd_C_isThere ⟨Nat.le_of_ble_eq_true rfl, Nat.le_of_ble_eq_true rfl⟩) (ci := 0) rfl rfl rfl hK hP hD hS hA rfl hl.1 rfl (Nat.le_of_ble_eq_true rfl) dn_C_holdVerdict_14 ⟨Nat.zero_le _, Nat.zero_le _⟩ (fun r14 u14 H locs hc14 hP hD hS => ?_)
      have hP : va_P (dC, dI) vwCl [(a0, .inr (0, [.ref a1, .ref a2, .ref a3, .ref a4, .int (nI K.1), .int (nI en)])), (a1, .inl (cI, 13, .inl K.2.1)), (a2, .inl (cI, 13, .inl K.2.2.1)), (a3, .inl (cI, 13, .inl K.2.2.2.1)), (a4, .inl (cI, 13, .inl K.2.2.2.2))] H := hP
      have hD : va_D A [(a0, .inr (0, [.ref a1, .ref a2, .ref a3, .ref a4, .int (nI K.1), .int (nI en)])), (a1, .inl (cI, 13, .inl K.2.1)), (a2, .inl (cI, 13, .inl K.2.2.1)), (a3, .inl (cI, 13, .inl K.2.2.2.1)), (a4, .inl (cI, 13, .inl K.2.2.2.2))] := hD
      rcases hc14 with ⟨rfl, j14, j14a, j14b, rfl⟩ | ⟨rfl, hno14⟩
      · skip
        refine lv_if_ne (tgt := 23) hx hb dn_C_holdVerdict_17 (by decide) (fun _ => ?_) (fun h => absurd h (by decide))
        refine lv_aload_n hx hb dn_C_holdVerdict_23 rfl (lv_at hl 0 rfl) ?_
        refine va_get (D := (dC, dI)) (ci := 0) (v := .ref a1) (C := rn_C) (T := tn_C) (N := 6) hx hb hw ml_C hown hK hP 0 rfl rfl 0 (by decide) (hw _ mw_37) (fun _ h9 => h9) rfl dn_C_holdVerdict_24 ?_
        refine lv_iload_n hx hb dn_C_holdVerdict_27 rfl (lv_at hl 1 rfl) ?_
        refine gr_iald hx hb hK hP 1 0 rfl rfl j14 rfl (by omega) (by decide) dn_C_holdVerdict_28 ?_
        refine lv_iconst (v := 1) hx hb dn_C_holdVerdict_29 (by decide) ?_
        refine lv_icmp_eq (tgt := 36) hx hb dn_C_holdVerdict_30 (by decide) (fun h30 => ?_) (fun h30 => ?_)
        · skip
          refine lv_aload_n hx hb dn_C_holdVerdict_36 rfl (lv_at hl 0 rfl) ?_
          refine va_get (D := (dC, dI)) (ci := 0) (v := .ref a3) (C := rn_C) (T := tn_C) (N := 6) hx hb hw ml_C hown hK hP 0 rfl rfl 2 (by decide) (hw _ mw_39) (fun _ h9 => h9) rfl dn_C_holdVerdict_37 ?_
          refine lv_iload_n hx hb dn_C_holdVerdict_40 rfl (lv_at hl 1 rfl) ?_
          refine gr_iald hx hb hK hP 3 0 rfl rfl j14 rfl (by omega) (by decide) dn_C_holdVerdict_41 ?_
          refine lv_iconst (v := 1) hx hb dn_C_holdVerdict_42 (by decide) ?_
          refine lv_iload_n hx hb dn_C_holdVerdict_43 rfl (lv_at hl 2 rfl) ?_
          refine lv_ishl hx hb dn_C_holdVerdict_44 ?_
          refine lv_iand hx hb dn_C_holdVerdict_45 ?_
          refine lv_if_eq (tgt := 53) hx hb dn_C_holdVerdict_46 (by decide) (fun h46 => ?_) (fun h46 => ?_)
          · skip
            refine lv_iconst (v := 0) hx hb dn_C_holdVerdict_53 (by decide) ?_
            refine lv_istore (lv' := [(4, .int 0), (0, .ref a0), (1, .int (nI j14)), (2, .int v), (3, .int 0)]) hx hb dn_C_holdVerdict_54 hl (by decide) rfl (fun ls hl => ?_)
            refine lv_iload hx hb dn_C_holdVerdict_56 (lv_at hl 0 rfl) ?_
            refine lv_iload_n hx hb dn_C_holdVerdict_58 rfl (lv_at hl 4 rfl) ?_
            refine lv_icmp_ne (tgt := 67) hx hb dn_C_holdVerdict_59 (by decide) (fun h => absurd h (by decide)) (fun _ => ?_)
            refine lv_bipush (v := (-5)) hx hb dn_C_holdVerdict_62 (by decide) ?_
            refine lv_goto (tgt := 68) hx hb dn_C_holdVerdict_64 (by decide) ?_
            exact hret (-5) () _ _ _ _ (ruh_same (Or.inr rfl) (fun q => q.elim h1 (Int32.not_lt.mpr h7)) j14a j14b ho h30 ⟨fun q => absurd h46 ((ct_hasB (hG _ j14a j14b) (fun q => q.elim h1 (Int32.not_lt.mpr h7))).1 q), fun q => absurd q (by decide)⟩) rfl hP hD hS dn_C_holdVerdict_68
          · skip
            refine lv_iconst (v := 1) hx hb dn_C_holdVerdict_49 (by decide) ?_
            refine lv_goto (tgt := 54) hx hb dn_C_holdVerdict_50 (by decide) ?_
            refine lv_istore (lv' := [(4, .int 1), (0, .ref a0), (1, .int (nI j14)), (2, .int v), (3, .int 0)]) hx hb dn_C_holdVerdict_54 hl (by decide) rfl (fun ls hl => ?_)
            refine lv_iload hx hb dn_C_holdVerdict_56 (lv_at hl 0 rfl) ?_
            refine lv_iload_n hx hb dn_C_holdVerdict_58 rfl (lv_at hl 4 rfl) ?_
            refine lv_icmp_ne (tgt := 67) hx hb dn_C_holdVerdict_59 (by decide) (fun _ => ?_) (fun h => absurd h (by decide))
            refine lv_iconst (v := 0) hx hb dn_C_holdVerdict_67 (by decide) ?_
            exact hret 0 () _ _ _ _ (ruh_ok (Or.inr rfl) (fun q => q.elim h1 (Int32.not_lt.mpr h7)) j14a j14b ho h30 (fun q => absurd (q.1 ((ct_hasB (hG _ j14a j14b) (fun q => q.elim h1 (Int32.not_lt.mpr h7))).2 h46)) (by decide))) rfl hP hD hS dn_C_holdVerdict_68
        · skip
          refine lv_bipush (v := (-3)) hx hb dn_C_holdVerdict_33 (by decide) ?_
          exact hret (-3) () _ _ _ _ (ruh_gone (Or.inr rfl) (fun q => q.elim h1 (Int32.not_lt.mpr h7)) j14a j14b ho h30) rfl hP hD hS dn_C_holdVerdict_35
      · skip
        refine lv_if_ne (tgt := 23) hx hb dn_C_holdVerdict_17 (by decide) (fun h => absurd h (by decide)) (fun _ => ?_)
        refine lv_bipush (v := (-2)) hx hb dn_C_holdVerdict_20 (by decide) ?_
        exact hret (-2) () _ _ _ _ (ruh_abs (Or.inr rfl) (fun q => q.elim h1 (Int32.not_lt.mpr h7)) hno14) rfl hP hD hS dn_C_holdVerdict_22
    · skip
      refine lv_iconst (v := (-1)) hx hb dn_C_holdVerdict_10 (by decide) ?_
      exact hret (-1) () _ _ _ _ (ruh_bad (Or.inr rfl) (by first | exact Or.inl h1 | exact Or.inr (Int32.not_le.mp h7))) rfl hP hD hS dn_C_holdVerdict_11

set_option maxRecDepth 100000 in
set_option maxHeartbeats 4000000 in
theorem c_C_endVerdict0 (l : Launch) (dC : Nat → ClassId) (dI : Nat → Nat → Nat) (cI cZ : ClassId) (a0 a1 a2 a3 a4 : Nat) (K : ct_T) (en : Nat) (ho : K.1 ≤ 12) (id t : Int32) : gc_I l yn_C_endVerdict (gw yn_C_endVerdict cn_C_endVerdict 4 (some .int)) (rm_ 1 21) (dC, dI) vwCl (gT cI cZ) [.ref a0, .int id, .int 0, .int t] [(a0, .inr (0, [.ref a1, .ref a2, .ref a3, .ref a4, .int (nI K.1), .int (nI en)])), (a1, .inl (cI, 13, .inl K.2.1)), (a2, .inl (cI, 13, .inl K.2.2.1)), (a3, .inl (cI, 13, .inl K.2.2.2.1)), (a4, .inl (cI, 13, .inl K.2.2.2.2))] (fun r (_ : Unit) => r = ct_ev K id 0 t) (fun _ => [(a0, .inr (0, [.ref a1, .ref a2, .ref a3, .ref a4, .int (nI K.1), .int (nI en)])), (a1, .inl (cI, 13, .inl K.2.1)), (a2, .inl (cI, 13, .inl K.2.2.1)), (a3, .inl (cI, 13, .inl K.2.2.2.1)), (a4, .inl (cI, 13, .inl K.2.2.2.2))]) := by
  refine gc_I_of (cc := cn_C_endVerdict) (maxL := 4) (ty := .int) (by decide) rfl (Nat.le_of_ble_eq_true rfl) ?_
  intro pp ee ss mm ar be me cd A Q ls H0 H locs hx hb hml hown hts hK hP hD hS hA hl hret
  have hw : ∀ w ∈ gw_T, w.before ar ss = true := fun w h => hts w (List.mem_cons_of_mem _ h)
  have hl : lv_has ls 4 [(0, .ref a0), (1, .int id), (2, .int 0), (3, .int t)] := hl
  refine lv_aload_n hx hb dn_C_endVerdict_0 rfl (lv_at hl 0 rfl) ?_
  refine lv_iload_n hx hb dn_C_endVerdict_1 rfl (lv_at hl 1 rfl) ?_
  refine gc_vi (pre := []) (wc := [(a0, .inr (0, [.ref a1, .ref a2, .ref a3, .ref a4, .int (nI K.1), .int (nI en)])), (a1, .inl (cI, 13, .inl K.2.1)), (a2, .inl (cI, 13, .inl K.2.2.1)), (a3, .inl (cI, 13, .inl K.2.2.2.1)), (a4, .inl (cI, 13, .inl K.2.2.2.2))]) (po := []) (As := [.int id]) (rest := []) ⟨hx, hb, hml, hown, hw⟩ (c_C_isThere l dC dI cI cZ a0 a1 a2 a3 a4 K en (by omega) id) (gw_cV 1 hw mw_158 mw_159 mw_160 mw_3 mw_161 hd_C_isThere ⟨Nat.le_of_ble_eq_true rfl, Nat.le_of_ble_eq_true rfl⟩) (ci := 0) rfl rfl rfl hK hP hD hS hA rfl hl.1 rfl (Nat.le_of_ble_eq_true rfl) dn_C_endVerdict_2 ⟨Nat.zero_le _, Nat.zero_le _⟩ (fun r2 u2 H locs hc2 hP hD hS => ?_)
  have hP : va_P (dC, dI) vwCl [(a0, .inr (0, [.ref a1, .ref a2, .ref a3, .ref a4, .int (nI K.1), .int (nI en)])), (a1, .inl (cI, 13, .inl K.2.1)), (a2, .inl (cI, 13, .inl K.2.2.1)), (a3, .inl (cI, 13, .inl K.2.2.2.1)), (a4, .inl (cI, 13, .inl K.2.2.2.2))] H := hP
  have hD : va_D A [(a0, .inr (0, [.ref a1, .ref a2, .ref a3, .ref a4, .int (nI K.1), .int (nI en)])), (a1, .inl (cI, 13, .inl K.2.1)), (a2, .inl (cI, 13, .inl K.2.2.1)), (a3, .inl (cI, 13, .inl K.2.2.2.1)), (a4, .inl (cI, 13, .inl K.2.2.2.2))] := hD
  rcases hc2 with ⟨rfl, j2, j2a, j2b, rfl⟩ | ⟨rfl, hno2⟩
  · skip
    refine lv_if_ne (tgt := 11) hx hb dn_C_endVerdict_5 (by decide) (fun _ => ?_) (fun h => absurd h (by decide))
    refine lv_iload_n hx hb dn_C_endVerdict_11 rfl (lv_at hl 2 rfl) ?_
    refine lv_if_eq (tgt := 18) hx hb dn_C_endVerdict_12 (by decide) (fun _ => ?_) (fun h => absurd h (by decide))
    refine lv_aload_n hx hb dn_C_endVerdict_18 rfl (lv_at hl 0 rfl) ?_
    refine va_get (D := (dC, dI)) (ci := 0) (v := .ref a3) (C := rn_C) (T := tn_C) (N := 6) hx hb hw ml_C hown hK hP 0 rfl rfl 2 (by decide) (hw _ mw_39) (fun _ h9 => h9) rfl dn_C_endVerdict_19 ?_
    refine lv_iload_n hx hb dn_C_endVerdict_22 rfl (lv_at hl 1 rfl) ?_
    refine gr_iald hx hb hK hP 3 0 rfl rfl j2 rfl (by omega) (by decide) dn_C_endVerdict_23 ?_
    refine lv_if_eq (tgt := 30) hx hb dn_C_endVerdict_24 (by decide) (fun h24 => ?_) (fun h24 => ?_)
    · skip
      refine lv_iload_n hx hb dn_C_endVerdict_30 rfl (lv_at hl 3 rfl) ?_
      refine lv_aload_n hx hb dn_C_endVerdict_31 rfl (lv_at hl 0 rfl) ?_
      refine va_get (D := (dC, dI)) (ci := 0) (v := .ref a2) (C := rn_C) (T := tn_C) (N := 6) hx hb hw ml_C hown hK hP 0 rfl rfl 1 (by decide) (hw _ mw_38) (fun _ h9 => h9) rfl dn_C_endVerdict_32 ?_
      refine lv_iload_n hx hb dn_C_endVerdict_35 rfl (lv_at hl 1 rfl) ?_
      refine gr_iald hx hb hK hP 2 0 rfl rfl j2 rfl (by omega) (by decide) dn_C_endVerdict_36 ?_
      refine lv_icmp_ge (tgt := 45) hx hb dn_C_endVerdict_37 (by decide) (fun h37 => ?_) (fun h37 => ?_)
      · skip
        refine lv_iconst (v := 0) hx hb dn_C_endVerdict_45 (by decide) ?_
        exact hret 0 () _ _ _ _ (ev_ok (by decide) h24 (Int32.not_lt.mpr h37) j2a j2b ho) rfl hP hD hS dn_C_endVerdict_46
      · skip
        refine lv_bipush (v := (-7)) hx hb dn_C_endVerdict_40 (by decide) ?_
        refine lv_goto (tgt := 46) hx hb dn_C_endVerdict_42 (by decide) ?_
        exact hret (-7) () _ _ _ _ (ev_early (by decide) h24 (Int32.not_le.mp h37) j2a j2b ho) rfl hP hD hS dn_C_endVerdict_46
    · skip
      refine lv_bipush (v := (-6)) hx hb dn_C_endVerdict_27 (by decide) ?_
      exact hret (-6) () _ _ _ _ (ev_held (by decide) h24 j2a j2b ho) rfl hP hD hS dn_C_endVerdict_29
  · skip
    refine lv_if_ne (tgt := 11) hx hb dn_C_endVerdict_5 (by decide) (fun h => absurd h (by decide)) (fun _ => ?_)
    refine lv_bipush (v := (-2)) hx hb dn_C_endVerdict_8 (by decide) ?_
    exact hret (-2) () _ _ _ _ (ev_abs hno2) rfl hP hD hS dn_C_endVerdict_10

set_option maxRecDepth 100000 in
set_option maxHeartbeats 4000000 in
theorem c_C_endVerdict1 (l : Launch) (dC : Nat → ClassId) (dI : Nat → Nat → Nat) (cI cZ : ClassId) (a0 a1 a2 a3 a4 : Nat) (K : ct_T) (en : Nat) (ho : K.1 ≤ 12) (id t : Int32) : gc_I l yn_C_endVerdict (gw yn_C_endVerdict cn_C_endVerdict 4 (some .int)) (rm_ 1 21) (dC, dI) vwCl (gT cI cZ) [.ref a0, .int id, .int 1, .int t] [(a0, .inr (0, [.ref a1, .ref a2, .ref a3, .ref a4, .int (nI K.1), .int (nI en)])), (a1, .inl (cI, 13, .inl K.2.1)), (a2, .inl (cI, 13, .inl K.2.2.1)), (a3, .inl (cI, 13, .inl K.2.2.2.1)), (a4, .inl (cI, 13, .inl K.2.2.2.2))] (fun r (_ : Unit) => r = ct_ev K id 1 t) (fun _ => [(a0, .inr (0, [.ref a1, .ref a2, .ref a3, .ref a4, .int (nI K.1), .int (nI en)])), (a1, .inl (cI, 13, .inl K.2.1)), (a2, .inl (cI, 13, .inl K.2.2.1)), (a3, .inl (cI, 13, .inl K.2.2.2.1)), (a4, .inl (cI, 13, .inl K.2.2.2.2))]) := by
  refine gc_I_of (cc := cn_C_endVerdict) (maxL := 4) (ty := .int) (by decide) rfl (Nat.le_of_ble_eq_true rfl) ?_
  intro pp ee ss mm ar be me cd A Q ls H0 H locs hx hb hml hown hts hK hP hD hS hA hl hret
  have hw : ∀ w ∈ gw_T, w.before ar ss = true := fun w h => hts w (List.mem_cons_of_mem _ h)
  have hl : lv_has ls 4 [(0, .ref a0), (1, .int id), (2, .int 1), (3, .int t)] := hl
  refine lv_aload_n hx hb dn_C_endVerdict_0 rfl (lv_at hl 0 rfl) ?_
  refine lv_iload_n hx hb dn_C_endVerdict_1 rfl (lv_at hl 1 rfl) ?_
  refine gc_vi (pre := []) (wc := [(a0, .inr (0, [.ref a1, .ref a2, .ref a3, .ref a4, .int (nI K.1), .int (nI en)])), (a1, .inl (cI, 13, .inl K.2.1)), (a2, .inl (cI, 13, .inl K.2.2.1)), (a3, .inl (cI, 13, .inl K.2.2.2.1)), (a4, .inl (cI, 13, .inl K.2.2.2.2))]) (po := []) (As := [.int id]) (rest := []) ⟨hx, hb, hml, hown, hw⟩ (c_C_isThere l dC dI cI cZ a0 a1 a2 a3 a4 K en (by omega) id) (gw_cV 1 hw mw_158 mw_159 mw_160 mw_3 mw_161 hd_C_isThere ⟨Nat.le_of_ble_eq_true rfl, Nat.le_of_ble_eq_true rfl⟩) (ci := 0) rfl rfl rfl hK hP hD hS hA rfl hl.1 rfl (Nat.le_of_ble_eq_true rfl) dn_C_endVerdict_2 ⟨Nat.zero_le _, Nat.zero_le _⟩ (fun r2 u2 H locs hc2 hP hD hS => ?_)
  have hP : va_P (dC, dI) vwCl [(a0, .inr (0, [.ref a1, .ref a2, .ref a3, .ref a4, .int (nI K.1), .int (nI en)])), (a1, .inl (cI, 13, .inl K.2.1)), (a2, .inl (cI, 13, .inl K.2.2.1)), (a3, .inl (cI, 13, .inl K.2.2.2.1)), (a4, .inl (cI, 13, .inl K.2.2.2.2))] H := hP
  have hD : va_D A [(a0, .inr (0, [.ref a1, .ref a2, .ref a3, .ref a4, .int (nI K.1), .int (nI en)])), (a1, .inl (cI, 13, .inl K.2.1)), (a2, .inl (cI, 13, .inl K.2.2.1)), (a3, .inl (cI, 13, .inl K.2.2.2.1)), (a4, .inl (cI, 13, .inl K.2.2.2.2))] := hD
  rcases hc2 with ⟨rfl, j2, j2a, j2b, rfl⟩ | ⟨rfl, hno2⟩
  · skip
    refine lv_if_ne (tgt := 11) hx hb dn_C_endVerdict_5 (by decide) (fun _ => ?_) (fun h => absurd h (by decide))
    refine lv_iload_n hx hb dn_C_endVerdict_11 rfl (lv_at hl 2 rfl) ?_
    refine lv_if_eq (tgt := 18) hx hb dn_C_endVerdict_12 (by decide) (fun h => absurd h (by decide)) (fun _ => ?_)
    refine lv_bipush (v := (-3)) hx hb dn_C_endVerdict_15 (by decide) ?_
    exact hret (-3) () _ _ _ _ (ev_gone rfl j2a j2b ho) rfl hP hD hS dn_C_endVerdict_17
  · skip
    refine lv_if_ne (tgt := 11) hx hb dn_C_endVerdict_5 (by decide) (fun h => absurd h (by decide)) (fun _ => ?_)
    refine lv_bipush (v := (-2)) hx hb dn_C_endVerdict_8 (by decide) ?_
    exact hret (-2) () _ _ _ _ (ev_abs hno2) rfl hP hD hS dn_C_endVerdict_10

set_option maxRecDepth 100000 in
set_option maxHeartbeats 4000000 in
theorem c_C_verdictOfKind (l : Launch) (dC : Nat → ClassId) (dI : Nat → Nat → Nat) (cI cZ : ClassId) (a0 a1 a2 a3 a4 : Nat) (K : ct_T) (en : Nat) (ho : K.1 ≤ 12) (hG : ∀ j, 1 ≤ j → j ≤ K.1 → ∃ g, g < 256 ∧ K.2.2.2.1 j = nI g) (kind id v t : Int32) : gc_I l yn_C_verdictOfKind (gw yn_C_verdictOfKind cn_C_verdictOfKind 5 (some .int)) (rm_ 2 45) (dC, dI) vwCl (gT cI cZ) [.ref a0, .int kind, .int id, .int v, .int t] [(a0, .inr (0, [.ref a1, .ref a2, .ref a3, .ref a4, .int (nI K.1), .int (nI en)])), (a1, .inl (cI, 13, .inl K.2.1)), (a2, .inl (cI, 13, .inl K.2.2.1)), (a3, .inl (cI, 13, .inl K.2.2.2.1)), (a4, .inl (cI, 13, .inl K.2.2.2.2))] (fun r (_ : Unit) => r = ct_vk K kind id v t) (fun _ => [(a0, .inr (0, [.ref a1, .ref a2, .ref a3, .ref a4, .int (nI K.1), .int (nI en)])), (a1, .inl (cI, 13, .inl K.2.1)), (a2, .inl (cI, 13, .inl K.2.2.1)), (a3, .inl (cI, 13, .inl K.2.2.2.1)), (a4, .inl (cI, 13, .inl K.2.2.2.2))]) := by
  refine gc_I_of (cc := cn_C_verdictOfKind) (maxL := 5) (ty := .int) (by decide) rfl (Nat.le_of_ble_eq_true rfl) ?_
  intro pp ee ss mm ar be me cd A Q ls H0 H locs hx hb hml hown hts hK hP hD hS hA hl hret
  have hw : ∀ w ∈ gw_T, w.before ar ss = true := fun w h => hts w (List.mem_cons_of_mem _ h)
  have hl : lv_has ls 5 [(0, .ref a0), (1, .int kind), (2, .int id), (3, .int v), (4, .int t)] := hl
  refine lv_iload_n hx hb dn_C_verdictOfKind_0 rfl (lv_at hl 1 rfl) ?_
  rcases sw_1_6 kind with rfl | rfl | rfl | rfl | rfl | rfl | h1
  · skip
    refine lv_tableIn (off := 39) (tgt := 40) hx hb dn_C_verdictOfKind_1 (by decide) (by decide) rfl (by decide) ?_
    refine lv_aload_n hx hb dn_C_verdictOfKind_40 rfl (lv_at hl 0 rfl) ?_
    refine lv_iload_n hx hb dn_C_verdictOfKind_41 rfl (lv_at hl 3 rfl) ?_
    refine lv_iload hx hb dn_C_verdictOfKind_42 (lv_at hl 4 rfl) ?_
    refine gc_vi (pre := []) (wc := [(a0, .inr (0, [.ref a1, .ref a2, .ref a3, .ref a4, .int (nI K.1), .int (nI en)])), (a1, .inl (cI, 13, .inl K.2.1)), (a2, .inl (cI, 13, .inl K.2.2.1)), (a3, .inl (cI, 13, .inl K.2.2.2.1)), (a4, .inl (cI, 13, .inl K.2.2.2.2))]) (po := []) (As := [.int v, .int t]) (rest := []) ⟨hx, hb, hml, hown, hw⟩ (c_C_putVerdict l dC dI cI cZ a0 a1 a2 a3 a4 K en (by omega) id v t) (gw_cV 2 hw mw_146 mw_148 mv_2 mw_3 mw_149 hd_C_putVerdict ⟨Nat.le_of_ble_eq_true rfl, Nat.le_of_ble_eq_true rfl⟩) (ci := 0) rfl rfl rfl hK hP hD hS hA rfl hl.1 rfl (Nat.le_of_ble_eq_true rfl) dn_C_verdictOfKind_44 ⟨Nat.zero_le _, Nat.zero_le _⟩ (fun r44 u44 H locs hc44 hP hD hS => ?_)
    subst hc44
    have hP : va_P (dC, dI) vwCl [(a0, .inr (0, [.ref a1, .ref a2, .ref a3, .ref a4, .int (nI K.1), .int (nI en)])), (a1, .inl (cI, 13, .inl K.2.1)), (a2, .inl (cI, 13, .inl K.2.2.1)), (a3, .inl (cI, 13, .inl K.2.2.2.1)), (a4, .inl (cI, 13, .inl K.2.2.2.2))] H := hP
    have hD : va_D A [(a0, .inr (0, [.ref a1, .ref a2, .ref a3, .ref a4, .int (nI K.1), .int (nI en)])), (a1, .inl (cI, 13, .inl K.2.1)), (a2, .inl (cI, 13, .inl K.2.2.1)), (a3, .inl (cI, 13, .inl K.2.2.2.1)), (a4, .inl (cI, 13, .inl K.2.2.2.2))] := hD
    exact hret (ct_ruC K 1 id v t) () _ _ _ _ (by unfold ct_vk; rw [if_pos ⟨by decide, by decide⟩]) rfl hP hD hS dn_C_verdictOfKind_47
  · skip
    refine lv_tableIn (off := 47) (tgt := 48) hx hb dn_C_verdictOfKind_1 (by decide) (by decide) rfl (by decide) ?_
    refine lv_aload_n hx hb dn_C_verdictOfKind_48 rfl (lv_at hl 0 rfl) ?_
    refine lv_iload_n hx hb dn_C_verdictOfKind_49 rfl (lv_at hl 2 rfl) ?_
    refine lv_iload_n hx hb dn_C_verdictOfKind_50 rfl (lv_at hl 3 rfl) ?_
    refine gc_vi (pre := []) (wc := [(a0, .inr (0, [.ref a1, .ref a2, .ref a3, .ref a4, .int (nI K.1), .int (nI en)])), (a1, .inl (cI, 13, .inl K.2.1)), (a2, .inl (cI, 13, .inl K.2.2.1)), (a3, .inl (cI, 13, .inl K.2.2.2.1)), (a4, .inl (cI, 13, .inl K.2.2.2.2))]) (po := []) (As := [.int id, .int v]) (rest := []) ⟨hx, hb, hml, hown, hw⟩ (c_C_extendVerdict l dC dI cI cZ a0 a1 a2 a3 a4 K en (by omega) id v t) (gw_cV 2 hw mw_154 mw_156 mv_3 mw_3 mw_157 hd_C_extendVerdict ⟨Nat.le_of_ble_eq_true rfl, Nat.le_of_ble_eq_true rfl⟩) (ci := 0) rfl rfl rfl hK hP hD hS hA rfl hl.1 rfl (Nat.le_of_ble_eq_true rfl) dn_C_verdictOfKind_51 ⟨Nat.zero_le _, Nat.zero_le _⟩ (fun r51 u51 H locs hc51 hP hD hS => ?_)
    subst hc51
    have hP : va_P (dC, dI) vwCl [(a0, .inr (0, [.ref a1, .ref a2, .ref a3, .ref a4, .int (nI K.1), .int (nI en)])), (a1, .inl (cI, 13, .inl K.2.1)), (a2, .inl (cI, 13, .inl K.2.2.1)), (a3, .inl (cI, 13, .inl K.2.2.2.1)), (a4, .inl (cI, 13, .inl K.2.2.2.2))] H := hP
    have hD : va_D A [(a0, .inr (0, [.ref a1, .ref a2, .ref a3, .ref a4, .int (nI K.1), .int (nI en)])), (a1, .inl (cI, 13, .inl K.2.1)), (a2, .inl (cI, 13, .inl K.2.2.1)), (a3, .inl (cI, 13, .inl K.2.2.2.1)), (a4, .inl (cI, 13, .inl K.2.2.2.2))] := hD
    exact hret (ct_ruC K 2 id v t) () _ _ _ _ (by unfold ct_vk; rw [if_pos ⟨by decide, by decide⟩]) rfl hP hD hS dn_C_verdictOfKind_54
  · skip
    refine lv_tableIn (off := 54) (tgt := 55) hx hb dn_C_verdictOfKind_1 (by decide) (by decide) rfl (by decide) ?_
    refine lv_aload_n hx hb dn_C_verdictOfKind_55 rfl (lv_at hl 0 rfl) ?_
    refine lv_iload_n hx hb dn_C_verdictOfKind_56 rfl (lv_at hl 2 rfl) ?_
    refine lv_iload_n hx hb dn_C_verdictOfKind_57 rfl (lv_at hl 3 rfl) ?_
    refine lv_iconst (v := 1) hx hb dn_C_verdictOfKind_58 (by decide) ?_
    refine gc_vi (pre := []) (wc := [(a0, .inr (0, [.ref a1, .ref a2, .ref a3, .ref a4, .int (nI K.1), .int (nI en)])), (a1, .inl (cI, 13, .inl K.2.1)), (a2, .inl (cI, 13, .inl K.2.2.1)), (a3, .inl (cI, 13, .inl K.2.2.2.1)), (a4, .inl (cI, 13, .inl K.2.2.2.2))]) (po := []) (As := [.int id, .int v, .int 1]) (rest := []) ⟨hx, hb, hml, hown, hw⟩ (c_C_holdVerdict3 l dC dI cI cZ a0 a1 a2 a3 a4 K en (by omega) hG id v t) (gw_cV 3 hw mw_162 mw_164 mv_4 mw_3 mw_165 hd_C_holdVerdict ⟨Nat.le_of_ble_eq_true rfl, Nat.le_of_ble_eq_true rfl⟩) (ci := 0) rfl rfl rfl hK hP hD hS hA rfl hl.1 rfl (Nat.le_of_ble_eq_true rfl) dn_C_verdictOfKind_59 ⟨Nat.zero_le _, Nat.zero_le _⟩ (fun r59 u59 H locs hc59 hP hD hS => ?_)
    subst hc59
    have hP : va_P (dC, dI) vwCl [(a0, .inr (0, [.ref a1, .ref a2, .ref a3, .ref a4, .int (nI K.1), .int (nI en)])), (a1, .inl (cI, 13, .inl K.2.1)), (a2, .inl (cI, 13, .inl K.2.2.1)), (a3, .inl (cI, 13, .inl K.2.2.2.1)), (a4, .inl (cI, 13, .inl K.2.2.2.2))] H := hP
    have hD : va_D A [(a0, .inr (0, [.ref a1, .ref a2, .ref a3, .ref a4, .int (nI K.1), .int (nI en)])), (a1, .inl (cI, 13, .inl K.2.1)), (a2, .inl (cI, 13, .inl K.2.2.1)), (a3, .inl (cI, 13, .inl K.2.2.2.1)), (a4, .inl (cI, 13, .inl K.2.2.2.2))] := hD
    exact hret (ct_ruC K 3 id v t) () _ _ _ _ (by unfold ct_vk; rw [if_pos ⟨by decide, by decide⟩]) rfl hP hD hS dn_C_verdictOfKind_62
  · skip
    refine lv_tableIn (off := 62) (tgt := 63) hx hb dn_C_verdictOfKind_1 (by decide) (by decide) rfl (by decide) ?_
    refine lv_aload_n hx hb dn_C_verdictOfKind_63 rfl (lv_at hl 0 rfl) ?_
    refine lv_iload_n hx hb dn_C_verdictOfKind_64 rfl (lv_at hl 2 rfl) ?_
    refine lv_iload_n hx hb dn_C_verdictOfKind_65 rfl (lv_at hl 3 rfl) ?_
    refine lv_iconst (v := 0) hx hb dn_C_verdictOfKind_66 (by decide) ?_
    refine gc_vi (pre := []) (wc := [(a0, .inr (0, [.ref a1, .ref a2, .ref a3, .ref a4, .int (nI K.1), .int (nI en)])), (a1, .inl (cI, 13, .inl K.2.1)), (a2, .inl (cI, 13, .inl K.2.2.1)), (a3, .inl (cI, 13, .inl K.2.2.2.1)), (a4, .inl (cI, 13, .inl K.2.2.2.2))]) (po := []) (As := [.int id, .int v, .int 0]) (rest := []) ⟨hx, hb, hml, hown, hw⟩ (c_C_holdVerdict4 l dC dI cI cZ a0 a1 a2 a3 a4 K en (by omega) hG id v t) (gw_cV 3 hw mw_162 mw_164 mv_4 mw_3 mw_165 hd_C_holdVerdict ⟨Nat.le_of_ble_eq_true rfl, Nat.le_of_ble_eq_true rfl⟩) (ci := 0) rfl rfl rfl hK hP hD hS hA rfl hl.1 rfl (Nat.le_of_ble_eq_true rfl) dn_C_verdictOfKind_67 ⟨Nat.zero_le _, Nat.zero_le _⟩ (fun r67 u67 H locs hc67 hP hD hS => ?_)
    subst hc67
    have hP : va_P (dC, dI) vwCl [(a0, .inr (0, [.ref a1, .ref a2, .ref a3, .ref a4, .int (nI K.1), .int (nI en)])), (a1, .inl (cI, 13, .inl K.2.1)), (a2, .inl (cI, 13, .inl K.2.2.1)), (a3, .inl (cI, 13, .inl K.2.2.2.1)), (a4, .inl (cI, 13, .inl K.2.2.2.2))] H := hP
    have hD : va_D A [(a0, .inr (0, [.ref a1, .ref a2, .ref a3, .ref a4, .int (nI K.1), .int (nI en)])), (a1, .inl (cI, 13, .inl K.2.1)), (a2, .inl (cI, 13, .inl K.2.2.1)), (a3, .inl (cI, 13, .inl K.2.2.2.1)), (a4, .inl (cI, 13, .inl K.2.2.2.2))] := hD
    exact hret (ct_ruC K 4 id v t) () _ _ _ _ (by unfold ct_vk; rw [if_pos ⟨by decide, by decide⟩]) rfl hP hD hS dn_C_verdictOfKind_70
  · skip
    refine lv_tableIn (off := 70) (tgt := 71) hx hb dn_C_verdictOfKind_1 (by decide) (by decide) rfl (by decide) ?_
    refine lv_aload_n hx hb dn_C_verdictOfKind_71 rfl (lv_at hl 0 rfl) ?_
    refine lv_iload_n hx hb dn_C_verdictOfKind_72 rfl (lv_at hl 2 rfl) ?_
    refine lv_aload_n hx hb dn_C_verdictOfKind_73 rfl (lv_at hl 0 rfl) ?_
    refine lv_iload_n hx hb dn_C_verdictOfKind_74 rfl (lv_at hl 2 rfl) ?_
    refine gc_vi (pre := []) (wc := [(a0, .inr (0, [.ref a1, .ref a2, .ref a3, .ref a4, .int (nI K.1), .int (nI en)])), (a1, .inl (cI, 13, .inl K.2.1)), (a2, .inl (cI, 13, .inl K.2.2.1)), (a3, .inl (cI, 13, .inl K.2.2.2.1)), (a4, .inl (cI, 13, .inl K.2.2.2.2))]) (po := []) (As := [.int id]) (rest := [.int id, .ref a0]) ⟨hx, hb, hml, hown, hw⟩ (c_C_stateOf l dC dI cI cZ a0 a1 a2 a3 a4 K en (by omega) id) (gw_cV 1 hw mw_166 mw_167 mw_168 mw_3 mw_169 hd_C_stateOf ⟨Nat.le_of_ble_eq_true rfl, Nat.le_of_ble_eq_true rfl⟩) (ci := 0) rfl rfl rfl hK hP hD hS hA rfl hl.1 rfl (Nat.le_of_ble_eq_true rfl) dn_C_verdictOfKind_75 ⟨Nat.zero_le _, Nat.zero_le _⟩ (fun r75 u75 H locs hc75 hP hD hS => ?_)
    subst hc75
    have hP : va_P (dC, dI) vwCl [(a0, .inr (0, [.ref a1, .ref a2, .ref a3, .ref a4, .int (nI K.1), .int (nI en)])), (a1, .inl (cI, 13, .inl K.2.1)), (a2, .inl (cI, 13, .inl K.2.2.1)), (a3, .inl (cI, 13, .inl K.2.2.2.1)), (a4, .inl (cI, 13, .inl K.2.2.2.2))] H := hP
    have hD : va_D A [(a0, .inr (0, [.ref a1, .ref a2, .ref a3, .ref a4, .int (nI K.1), .int (nI en)])), (a1, .inl (cI, 13, .inl K.2.1)), (a2, .inl (cI, 13, .inl K.2.2.1)), (a3, .inl (cI, 13, .inl K.2.2.2.1)), (a4, .inl (cI, 13, .inl K.2.2.2.2))] := hD
    refine lv_iconst (v := 1) hx hb dn_C_verdictOfKind_78 (by decide) ?_
    refine lv_icmp_eq (tgt := 86) hx hb dn_C_verdictOfKind_79 (by decide) (fun h79 => ?_) (fun h79 => ?_)
    · skip
      refine lv_iconst (v := 0) hx hb dn_C_verdictOfKind_86 (by decide) ?_
      refine lv_iload hx hb dn_C_verdictOfKind_87 (lv_at hl 4 rfl) ?_
      refine gc_vi (pre := []) (wc := [(a0, .inr (0, [.ref a1, .ref a2, .ref a3, .ref a4, .int (nI K.1), .int (nI en)])), (a1, .inl (cI, 13, .inl K.2.1)), (a2, .inl (cI, 13, .inl K.2.2.1)), (a3, .inl (cI, 13, .inl K.2.2.2.1)), (a4, .inl (cI, 13, .inl K.2.2.2.2))]) (po := []) (As := [.int id, .int 0, .int t]) (rest := []) ⟨hx, hb, hml, hown, hw⟩ (c_C_endVerdict0 l dC dI cI cZ a0 a1 a2 a3 a4 K en (by omega) id t) (gw_cV 3 hw mw_170 mw_172 mv_5 mw_3 mw_173 hd_C_endVerdict ⟨Nat.le_of_ble_eq_true rfl, Nat.le_of_ble_eq_true rfl⟩) (ci := 0) rfl rfl rfl hK hP hD hS hA rfl hl.1 rfl (Nat.le_of_ble_eq_true rfl) dn_C_verdictOfKind_89 ⟨Nat.zero_le _, Nat.zero_le _⟩ (fun r89 u89 H locs hc89 hP hD hS => ?_)
      subst hc89
      have hP : va_P (dC, dI) vwCl [(a0, .inr (0, [.ref a1, .ref a2, .ref a3, .ref a4, .int (nI K.1), .int (nI en)])), (a1, .inl (cI, 13, .inl K.2.1)), (a2, .inl (cI, 13, .inl K.2.2.1)), (a3, .inl (cI, 13, .inl K.2.2.2.1)), (a4, .inl (cI, 13, .inl K.2.2.2.2))] H := hP
      have hD : va_D A [(a0, .inr (0, [.ref a1, .ref a2, .ref a3, .ref a4, .int (nI K.1), .int (nI en)])), (a1, .inl (cI, 13, .inl K.2.1)), (a2, .inl (cI, 13, .inl K.2.2.1)), (a3, .inl (cI, 13, .inl K.2.2.2.1)), (a4, .inl (cI, 13, .inl K.2.2.2.2))] := hD
      exact hret (ct_ev K id 0 t) () _ _ _ _ (by unfold ct_vk; rw [if_pos ⟨by decide, by decide⟩]; exact ev_ru5 ho (by first | rw [if_pos h79] | rw [if_neg h79])) rfl hP hD hS dn_C_verdictOfKind_92
    · skip
      refine lv_iconst (v := 1) hx hb dn_C_verdictOfKind_82 (by decide) ?_
      refine lv_goto (tgt := 87) hx hb dn_C_verdictOfKind_83 (by decide) ?_
      refine lv_iload hx hb dn_C_verdictOfKind_87 (lv_at hl 4 rfl) ?_
      refine gc_vi (pre := []) (wc := [(a0, .inr (0, [.ref a1, .ref a2, .ref a3, .ref a4, .int (nI K.1), .int (nI en)])), (a1, .inl (cI, 13, .inl K.2.1)), (a2, .inl (cI, 13, .inl K.2.2.1)), (a3, .inl (cI, 13, .inl K.2.2.2.1)), (a4, .inl (cI, 13, .inl K.2.2.2.2))]) (po := []) (As := [.int id, .int 1, .int t]) (rest := []) ⟨hx, hb, hml, hown, hw⟩ (c_C_endVerdict1 l dC dI cI cZ a0 a1 a2 a3 a4 K en (by omega) id t) (gw_cV 3 hw mw_170 mw_172 mv_5 mw_3 mw_173 hd_C_endVerdict ⟨Nat.le_of_ble_eq_true rfl, Nat.le_of_ble_eq_true rfl⟩) (ci := 0) rfl rfl rfl hK hP hD hS hA rfl hl.1 rfl (Nat.le_of_ble_eq_true rfl) dn_C_verdictOfKind_89 ⟨Nat.zero_le _, Nat.zero_le _⟩ (fun r89 u89 H locs hc89 hP hD hS => ?_)
      subst hc89
      have hP : va_P (dC, dI) vwCl [(a0, .inr (0, [.ref a1, .ref a2, .ref a3, .ref a4, .int (nI K.1), .int (nI en)])), (a1, .inl (cI, 13, .inl K.2.1)), (a2, .inl (cI, 13, .inl K.2.2.1)), (a3, .inl (cI, 13, .inl K.2.2.2.1)), (a4, .inl (cI, 13, .inl K.2.2.2.2))] H := hP
      have hD : va_D A [(a0, .inr (0, [.ref a1, .ref a2, .ref a3, .ref a4, .int (nI K.1), .int (nI en)])), (a1, .inl (cI, 13, .inl K.2.1)), (a2, .inl (cI, 13, .inl K.2.2.1)), (a3, .inl (cI, 13, .inl K.2.2.2.1)), (a4, .inl (cI, 13, .inl K.2.2.2.2))] := hD
      exact hret (ct_ev K id 1 t) () _ _ _ _ (by unfold ct_vk; rw [if_pos ⟨by decide, by decide⟩]; exact ev_ru5 ho (by first | rw [if_pos h79] | rw [if_neg h79])) rfl hP hD hS dn_C_verdictOfKind_92
  · skip
    refine lv_tableIn (off := 92) (tgt := 93) hx hb dn_C_verdictOfKind_1 (by decide) (by decide) rfl (by decide) ?_
    refine lv_aload_n hx hb dn_C_verdictOfKind_93 rfl (lv_at hl 0 rfl) ?_
    refine lv_iload_n hx hb dn_C_verdictOfKind_94 rfl (lv_at hl 2 rfl) ?_
    refine lv_aload_n hx hb dn_C_verdictOfKind_95 rfl (lv_at hl 0 rfl) ?_
    refine lv_iload_n hx hb dn_C_verdictOfKind_96 rfl (lv_at hl 2 rfl) ?_
    refine gc_vi (pre := []) (wc := [(a0, .inr (0, [.ref a1, .ref a2, .ref a3, .ref a4, .int (nI K.1), .int (nI en)])), (a1, .inl (cI, 13, .inl K.2.1)), (a2, .inl (cI, 13, .inl K.2.2.1)), (a3, .inl (cI, 13, .inl K.2.2.2.1)), (a4, .inl (cI, 13, .inl K.2.2.2.2))]) (po := []) (As := [.int id]) (rest := [.int id, .ref a0]) ⟨hx, hb, hml, hown, hw⟩ (c_C_stateOf l dC dI cI cZ a0 a1 a2 a3 a4 K en (by omega) id) (gw_cV 1 hw mw_166 mw_167 mw_168 mw_3 mw_169 hd_C_stateOf ⟨Nat.le_of_ble_eq_true rfl, Nat.le_of_ble_eq_true rfl⟩) (ci := 0) rfl rfl rfl hK hP hD hS hA rfl hl.1 rfl (Nat.le_of_ble_eq_true rfl) dn_C_verdictOfKind_97 ⟨Nat.zero_le _, Nat.zero_le _⟩ (fun r97 u97 H locs hc97 hP hD hS => ?_)
    subst hc97
    have hP : va_P (dC, dI) vwCl [(a0, .inr (0, [.ref a1, .ref a2, .ref a3, .ref a4, .int (nI K.1), .int (nI en)])), (a1, .inl (cI, 13, .inl K.2.1)), (a2, .inl (cI, 13, .inl K.2.2.1)), (a3, .inl (cI, 13, .inl K.2.2.2.1)), (a4, .inl (cI, 13, .inl K.2.2.2.2))] H := hP
    have hD : va_D A [(a0, .inr (0, [.ref a1, .ref a2, .ref a3, .ref a4, .int (nI K.1), .int (nI en)])), (a1, .inl (cI, 13, .inl K.2.1)), (a2, .inl (cI, 13, .inl K.2.2.1)), (a3, .inl (cI, 13, .inl K.2.2.2.1)), (a4, .inl (cI, 13, .inl K.2.2.2.2))] := hD
    refine lv_iconst (v := 3) hx hb dn_C_verdictOfKind_100 (by decide) ?_
    refine lv_icmp_ne (tgt := 108) hx hb dn_C_verdictOfKind_101 (by decide) (fun h101 => ?_) (fun h101 => ?_)
    · skip
      refine lv_iconst (v := 0) hx hb dn_C_verdictOfKind_108 (by decide) ?_
      refine lv_iload hx hb dn_C_verdictOfKind_109 (lv_at hl 4 rfl) ?_
      refine gc_vi (pre := []) (wc := [(a0, .inr (0, [.ref a1, .ref a2, .ref a3, .ref a4, .int (nI K.1), .int (nI en)])), (a1, .inl (cI, 13, .inl K.2.1)), (a2, .inl (cI, 13, .inl K.2.2.1)), (a3, .inl (cI, 13, .inl K.2.2.2.1)), (a4, .inl (cI, 13, .inl K.2.2.2.2))]) (po := []) (As := [.int id, .int 0, .int t]) (rest := []) ⟨hx, hb, hml, hown, hw⟩ (c_C_endVerdict0 l dC dI cI cZ a0 a1 a2 a3 a4 K en (by omega) id t) (gw_cV 3 hw mw_170 mw_172 mv_5 mw_3 mw_173 hd_C_endVerdict ⟨Nat.le_of_ble_eq_true rfl, Nat.le_of_ble_eq_true rfl⟩) (ci := 0) rfl rfl rfl hK hP hD hS hA rfl hl.1 rfl (Nat.le_of_ble_eq_true rfl) dn_C_verdictOfKind_111 ⟨Nat.zero_le _, Nat.zero_le _⟩ (fun r111 u111 H locs hc111 hP hD hS => ?_)
      subst hc111
      have hP : va_P (dC, dI) vwCl [(a0, .inr (0, [.ref a1, .ref a2, .ref a3, .ref a4, .int (nI K.1), .int (nI en)])), (a1, .inl (cI, 13, .inl K.2.1)), (a2, .inl (cI, 13, .inl K.2.2.1)), (a3, .inl (cI, 13, .inl K.2.2.2.1)), (a4, .inl (cI, 13, .inl K.2.2.2.2))] H := hP
      have hD : va_D A [(a0, .inr (0, [.ref a1, .ref a2, .ref a3, .ref a4, .int (nI K.1), .int (nI en)])), (a1, .inl (cI, 13, .inl K.2.1)), (a2, .inl (cI, 13, .inl K.2.2.1)), (a3, .inl (cI, 13, .inl K.2.2.2.1)), (a4, .inl (cI, 13, .inl K.2.2.2.2))] := hD
      exact hret (ct_ev K id 0 t) () _ _ _ _ (by unfold ct_vk; rw [if_pos ⟨by decide, by decide⟩]; exact ev_ru6 ho (by first | rw [if_pos h101] | rw [if_neg h101])) rfl hP hD hS dn_C_verdictOfKind_114
    · skip
      refine lv_iconst (v := 1) hx hb dn_C_verdictOfKind_104 (by decide) ?_
      refine lv_goto (tgt := 109) hx hb dn_C_verdictOfKind_105 (by decide) ?_
      refine lv_iload hx hb dn_C_verdictOfKind_109 (lv_at hl 4 rfl) ?_
      refine gc_vi (pre := []) (wc := [(a0, .inr (0, [.ref a1, .ref a2, .ref a3, .ref a4, .int (nI K.1), .int (nI en)])), (a1, .inl (cI, 13, .inl K.2.1)), (a2, .inl (cI, 13, .inl K.2.2.1)), (a3, .inl (cI, 13, .inl K.2.2.2.1)), (a4, .inl (cI, 13, .inl K.2.2.2.2))]) (po := []) (As := [.int id, .int 1, .int t]) (rest := []) ⟨hx, hb, hml, hown, hw⟩ (c_C_endVerdict1 l dC dI cI cZ a0 a1 a2 a3 a4 K en (by omega) id t) (gw_cV 3 hw mw_170 mw_172 mv_5 mw_3 mw_173 hd_C_endVerdict ⟨Nat.le_of_ble_eq_true rfl, Nat.le_of_ble_eq_true rfl⟩) (ci := 0) rfl rfl rfl hK hP hD hS hA rfl hl.1 rfl (Nat.le_of_ble_eq_true rfl) dn_C_verdictOfKind_111 ⟨Nat.zero_le _, Nat.zero_le _⟩ (fun r111 u111 H locs hc111 hP hD hS => ?_)
      subst hc111
      have hP : va_P (dC, dI) vwCl [(a0, .inr (0, [.ref a1, .ref a2, .ref a3, .ref a4, .int (nI K.1), .int (nI en)])), (a1, .inl (cI, 13, .inl K.2.1)), (a2, .inl (cI, 13, .inl K.2.2.1)), (a3, .inl (cI, 13, .inl K.2.2.2.1)), (a4, .inl (cI, 13, .inl K.2.2.2.2))] H := hP
      have hD : va_D A [(a0, .inr (0, [.ref a1, .ref a2, .ref a3, .ref a4, .int (nI K.1), .int (nI en)])), (a1, .inl (cI, 13, .inl K.2.1)), (a2, .inl (cI, 13, .inl K.2.2.1)), (a3, .inl (cI, 13, .inl K.2.2.2.1)), (a4, .inl (cI, 13, .inl K.2.2.2.2))] := hD
      exact hret (ct_ev K id 1 t) () _ _ _ _ (by unfold ct_vk; rw [if_pos ⟨by decide, by decide⟩]; exact ev_ru6 ho (by first | rw [if_pos h101] | rw [if_neg h101])) rfl hP hD hS dn_C_verdictOfKind_114
  · skip
    refine lv_tableOut (tgt := 115) hx hb dn_C_verdictOfKind_1 h1 (by decide) ?_
    refine lv_iconst (v := (-1)) hx hb dn_C_verdictOfKind_115 (by decide) ?_
    exact hret (-1) () _ _ _ _ (by unfold ct_vk; rw [if_neg (sw_no h1)]) rfl hP hD hS dn_C_verdictOfKind_116

set_option maxRecDepth 100000 in
set_option maxHeartbeats 4000000 in
theorem c_C_verdict (l : Launch) (dC : Nat → ClassId) (dI : Nat → Nat → Nat) (cI cZ : ClassId) (a0 a1 a2 a3 a4 : Nat) (K : ct_T) (en : Nat) (ho : K.1 ≤ 12) (hG : ∀ j, 1 ≤ j → j ≤ K.1 → ∃ g, g < 256 ∧ K.2.2.2.1 j = nI g) (kind id v t : Int32) (hen : en < 2 ^ 31) : gc_I l yn_C_verdict (gw yn_C_verdict cn_C_verdict 6 (some .int)) (rm_ 3 69) (dC, dI) vwCl (gT cI cZ) [.ref a0, .int kind, .int id, .int v, .int t] [(a0, .inr (0, [.ref a1, .ref a2, .ref a3, .ref a4, .int (nI K.1), .int (nI en)])), (a1, .inl (cI, 13, .inl K.2.1)), (a2, .inl (cI, 13, .inl K.2.2.1)), (a3, .inl (cI, 13, .inl K.2.2.2.1)), (a4, .inl (cI, 13, .inl K.2.2.2.2))] (fun r (_ : Unit) => r = ct_vd K en kind id v t) (fun _ => [(a0, .inr (0, [.ref a1, .ref a2, .ref a3, .ref a4, .int (nI K.1), .int (nI en)])), (a1, .inl (cI, 13, .inl K.2.1)), (a2, .inl (cI, 13, .inl K.2.2.1)), (a3, .inl (cI, 13, .inl K.2.2.2.1)), (a4, .inl (cI, 13, .inl K.2.2.2.2))]) := by
  refine gc_I_of (cc := cn_C_verdict) (maxL := 6) (ty := .int) (by decide) rfl (Nat.le_of_ble_eq_true rfl) ?_
  intro pp ee ss mm ar be me cd A Q ls H0 H locs hx hb hml hown hts hK hP hD hS hA hl hret
  have hw : ∀ w ∈ gw_T, w.before ar ss = true := fun w h => hts w (List.mem_cons_of_mem _ h)
  have hl : lv_has ls 6 [(0, .ref a0), (1, .int kind), (2, .int id), (3, .int v), (4, .int t)] := hl
  refine lv_aload_n hx hb dn_C_verdict_0 rfl (lv_at hl 0 rfl) ?_
  refine lv_iload_n hx hb dn_C_verdict_1 rfl (lv_at hl 1 rfl) ?_
  refine lv_iload_n hx hb dn_C_verdict_2 rfl (lv_at hl 2 rfl) ?_
  refine lv_iload_n hx hb dn_C_verdict_3 rfl (lv_at hl 3 rfl) ?_
  refine lv_iload hx hb dn_C_verdict_4 (lv_at hl 4 rfl) ?_
  refine gc_vi (pre := []) (wc := [(a0, .inr (0, [.ref a1, .ref a2, .ref a3, .ref a4, .int (nI K.1), .int (nI en)])), (a1, .inl (cI, 13, .inl K.2.1)), (a2, .inl (cI, 13, .inl K.2.2.1)), (a3, .inl (cI, 13, .inl K.2.2.2.1)), (a4, .inl (cI, 13, .inl K.2.2.2.2))]) (po := []) (As := [.int kind, .int id, .int v, .int t]) (rest := []) ⟨hx, hb, hml, hown, hw⟩ (c_C_verdictOfKind l dC dI cI cZ a0 a1 a2 a3 a4 K en (by omega) hG kind id v t) (gw_cV 4 hw mw_142 mw_144 mv_1 mw_3 mw_145 hd_C_verdictOfKind ⟨Nat.le_of_ble_eq_true rfl, Nat.le_of_ble_eq_true rfl⟩) (ci := 0) rfl rfl rfl hK hP hD hS hA rfl hl.1 rfl (Nat.le_of_ble_eq_true rfl) dn_C_verdict_6 ⟨Nat.zero_le _, Nat.zero_le _⟩ (fun r6 u6 H locs hc6 hP hD hS => ?_)
  subst hc6
  have hP : va_P (dC, dI) vwCl [(a0, .inr (0, [.ref a1, .ref a2, .ref a3, .ref a4, .int (nI K.1), .int (nI en)])), (a1, .inl (cI, 13, .inl K.2.1)), (a2, .inl (cI, 13, .inl K.2.2.1)), (a3, .inl (cI, 13, .inl K.2.2.2.1)), (a4, .inl (cI, 13, .inl K.2.2.2.2))] H := hP
  have hD : va_D A [(a0, .inr (0, [.ref a1, .ref a2, .ref a3, .ref a4, .int (nI K.1), .int (nI en)])), (a1, .inl (cI, 13, .inl K.2.1)), (a2, .inl (cI, 13, .inl K.2.2.1)), (a3, .inl (cI, 13, .inl K.2.2.2.1)), (a4, .inl (cI, 13, .inl K.2.2.2.2))] := hD
  refine lv_istore (lv' := [(5, .int (ct_vk K kind id v t)), (0, .ref a0), (1, .int kind), (2, .int id), (3, .int v), (4, .int t)]) hx hb dn_C_verdict_9 hl (by decide) rfl (fun ls hl => ?_)
  refine lv_iload hx hb dn_C_verdict_11 (lv_at hl 0 rfl) ?_
  refine lv_if_ne (tgt := 28) hx hb dn_C_verdict_13 (by decide) (fun h13 => ?_) (fun h13 => ?_)
  · skip
    refine lv_iload hx hb dn_C_verdict_28 (lv_at hl 0 rfl) ?_
    exact hret (ct_vk K kind id v t) () _ _ _ _ (by unfold ct_vd; rw [if_neg (fun q => by first | exact h13 q.1 | omega)]) rfl hP hD hS dn_C_verdict_30
  · skip
    refine lv_aload_n hx hb dn_C_verdict_16 rfl (lv_at hl 1 rfl) ?_
    refine va_get (D := (dC, dI)) (ci := 0) (v := .int (nI en)) (C := rn_C) (T := tn_C) (N := 6) hx hb hw ml_C hown hK hP 0 rfl rfl 5 (by decide) (hw _ mw_42) (fun _ h9 => h9) rfl dn_C_verdict_17 ?_
    refine lv_bipush (v := 40) hx hb dn_C_verdict_20 (by decide) ?_
    refine gr_clt (tgt := 28) hx hb en 40 rfl rfl (by omega) (by decide) dn_C_verdict_22 (by decide) (fun h22 => ?_) (fun h22 => ?_)
    · skip
      refine lv_iload hx hb dn_C_verdict_28 (lv_at hl 0 rfl) ?_
      exact hret (ct_vk K kind id v t) () _ _ _ _ (by unfold ct_vd; rw [if_neg (fun q => by first | exact h13 q.1 | omega)]) rfl hP hD hS dn_C_verdict_30
    · skip
      refine lv_bipush (v := (-8)) hx hb dn_C_verdict_25 (by decide) ?_
      exact hret (-8) () _ _ _ _ (by unfold ct_vd; rw [if_pos ⟨h13, h22⟩]) rfl hP hD hS dn_C_verdict_27

set_option maxRecDepth 100000 in
set_option maxHeartbeats 4000000 in
theorem c_C_addObject (l : Launch) (dC : Nat → ClassId) (dI : Nat → Nat → Nat) (cI cZ : ClassId) (a0 a1 a2 a3 a4 : Nat) (K : ct_T) (en : Nat) (ho : K.1 ≤ 12) (hlt : K.1 < 12) (v : Int32) : gc_V l yn_C_addObject (gw yn_C_addObject cn_C_addObject 2 none) (rm_ 0 0) (dC, dI) vwCl (gT cI cZ) [.ref a0, .int v] [(a0, .inr (0, [.ref a1, .ref a2, .ref a3, .ref a4, .int (nI K.1), .int (nI en)])), (a1, .inl (cI, 13, .inl K.2.1)), (a2, .inl (cI, 13, .inl K.2.2.1)), (a3, .inl (cI, 13, .inl K.2.2.2.1)), (a4, .inl (cI, 13, .inl K.2.2.2.2))] (fun (_ : Unit) => True) (fun _ => [(a0, .inr (0, [.ref a1, .ref a2, .ref a3, .ref a4, .int (nI (K.1 + 1)), .int (nI en)])), (a1, .inl (cI, 13, .inl (upd K.2.1 (K.1 + 1) 1))), (a2, .inl (cI, 13, .inl (upd K.2.2.1 (K.1 + 1) v))), (a3, .inl (cI, 13, .inl (upd K.2.2.2.1 (K.1 + 1) 0))), (a4, .inl (cI, 13, .inl (upd K.2.2.2.2 (K.1 + 1) (nI en))))]) := by
  refine gc_V_of (cc := cn_C_addObject) (maxL := 2) (by decide) rfl (Nat.le_of_ble_eq_true rfl) ?_
  intro pp ee ss mm ar be me cd A Q ls H0 H locs hx hb hml hown hts hK hP hD hS hA hl hret
  have hw : ∀ w ∈ gw_T, w.before ar ss = true := fun w h => hts w (List.mem_cons_of_mem _ h)
  have hl : lv_has ls 2 [(0, .ref a0), (1, .int v)] := hl
  refine lv_aload_n hx hb dn_C_addObject_0 rfl (lv_at hl 0 rfl) ?_
  refine va_get (D := (dC, dI)) (ci := 0) (v := .int (nI K.1)) (C := rn_C) (T := tn_C) (N := 6) hx hb hw ml_C hown hK hP 0 rfl rfl 4 (by decide) (hw _ mw_41) (fun _ h9 => h9) rfl dn_C_addObject_1 ?_
  refine lv_bipush (v := 12) hx hb dn_C_addObject_4 (by decide) ?_
  refine gr_clt (tgt := 10) hx hb K.1 12 rfl rfl (by omega) (by decide) dn_C_addObject_6 (by decide) (fun h6 => ?_) (fun h6 => absurd h6 (by omega))
  refine lv_aload_n hx hb dn_C_addObject_10 rfl (lv_at hl 0 rfl) ?_
  refine lv_dup hx hb dn_C_addObject_11 rfl ?_
  refine va_get (D := (dC, dI)) (ci := 0) (v := .int (nI K.1)) (C := rn_C) (T := tn_C) (N := 6) hx hb hw ml_C hown hK hP 0 rfl rfl 4 (by decide) (hw _ mw_41) (fun _ h9 => h9) rfl dn_C_addObject_12 ?_
  refine lv_iconst (v := 1) hx hb dn_C_addObject_15 (by decide) ?_
  refine gr_addN hx hb K.1 1 rfl rfl dn_C_addObject_16 ?_
  refine va_put (D := (dC, dI)) (ci := 0) (v := .int (nI (K.1 + 1))) (ty := .int) (C := rn_C) (T := tn_C) (N := 6) hx hb hw ml_C tt_C to_C nd_C hown hK hP hD hS 0 rfl rfl 4 (by decide) (hw _ mw_41) (fun _ h9 => h9) rfl (by decide +kernel) rfl rfl (Nat.le_of_ble_eq_true rfl) dn_C_addObject_17 (fun H locs hP hD hS => ?_)
  have hP : va_P (dC, dI) vwCl [(a0, .inr (0, [.ref a1, .ref a2, .ref a3, .ref a4, .int (nI (K.1 + 1)), .int (nI en)])), (a1, .inl (cI, 13, .inl K.2.1)), (a2, .inl (cI, 13, .inl K.2.2.1)), (a3, .inl (cI, 13, .inl K.2.2.2.1)), (a4, .inl (cI, 13, .inl K.2.2.2.2))] H := hP
  have hD : va_D A [(a0, .inr (0, [.ref a1, .ref a2, .ref a3, .ref a4, .int (nI (K.1 + 1)), .int (nI en)])), (a1, .inl (cI, 13, .inl K.2.1)), (a2, .inl (cI, 13, .inl K.2.2.1)), (a3, .inl (cI, 13, .inl K.2.2.2.1)), (a4, .inl (cI, 13, .inl K.2.2.2.2))] := hD
  refine lv_aload_n hx hb dn_C_addObject_20 rfl (lv_at hl 0 rfl) ?_
  refine va_get (D := (dC, dI)) (ci := 0) (v := .ref a1) (C := rn_C) (T := tn_C) (N := 6) hx hb hw ml_C hown hK hP 0 rfl rfl 0 (by decide) (hw _ mw_37) (fun _ h9 => h9) rfl dn_C_addObject_21 ?_
  refine lv_aload_n hx hb dn_C_addObject_24 rfl (lv_at hl 0 rfl) ?_
  refine va_get (D := (dC, dI)) (ci := 0) (v := .int (nI (K.1 + 1))) (C := rn_C) (T := tn_C) (N := 6) hx hb hw ml_C hown hK hP 0 rfl rfl 4 (by decide) (hw _ mw_41) (fun _ h9 => h9) rfl dn_C_addObject_25 ?_
  refine lv_iconst (v := 1) hx hb dn_C_addObject_28 (by decide) ?_
  refine gr_iast hx hb hK hP hD hS 1 0 rfl rfl (K.1 + 1) rfl (by omega) (by decide) dn_C_addObject_29 (fun H locs hP hD hS => ?_)
  have hP : va_P (dC, dI) vwCl [(a0, .inr (0, [.ref a1, .ref a2, .ref a3, .ref a4, .int (nI (K.1 + 1)), .int (nI en)])), (a1, .inl (cI, 13, .inl (upd K.2.1 (K.1 + 1) 1))), (a2, .inl (cI, 13, .inl K.2.2.1)), (a3, .inl (cI, 13, .inl K.2.2.2.1)), (a4, .inl (cI, 13, .inl K.2.2.2.2))] H := hP
  have hD : va_D A [(a0, .inr (0, [.ref a1, .ref a2, .ref a3, .ref a4, .int (nI (K.1 + 1)), .int (nI en)])), (a1, .inl (cI, 13, .inl (upd K.2.1 (K.1 + 1) 1))), (a2, .inl (cI, 13, .inl K.2.2.1)), (a3, .inl (cI, 13, .inl K.2.2.2.1)), (a4, .inl (cI, 13, .inl K.2.2.2.2))] := hD
  refine lv_aload_n hx hb dn_C_addObject_30 rfl (lv_at hl 0 rfl) ?_
  refine va_get (D := (dC, dI)) (ci := 0) (v := .ref a2) (C := rn_C) (T := tn_C) (N := 6) hx hb hw ml_C hown hK hP 0 rfl rfl 1 (by decide) (hw _ mw_38) (fun _ h9 => h9) rfl dn_C_addObject_31 ?_
  refine lv_aload_n hx hb dn_C_addObject_34 rfl (lv_at hl 0 rfl) ?_
  refine va_get (D := (dC, dI)) (ci := 0) (v := .int (nI (K.1 + 1))) (C := rn_C) (T := tn_C) (N := 6) hx hb hw ml_C hown hK hP 0 rfl rfl 4 (by decide) (hw _ mw_41) (fun _ h9 => h9) rfl dn_C_addObject_35 ?_
  refine lv_iload_n hx hb dn_C_addObject_38 rfl (lv_at hl 1 rfl) ?_
  refine gr_iast hx hb hK hP hD hS 2 0 rfl rfl (K.1 + 1) rfl (by omega) (by decide) dn_C_addObject_39 (fun H locs hP hD hS => ?_)
  have hP : va_P (dC, dI) vwCl [(a0, .inr (0, [.ref a1, .ref a2, .ref a3, .ref a4, .int (nI (K.1 + 1)), .int (nI en)])), (a1, .inl (cI, 13, .inl (upd K.2.1 (K.1 + 1) 1))), (a2, .inl (cI, 13, .inl (upd K.2.2.1 (K.1 + 1) v))), (a3, .inl (cI, 13, .inl K.2.2.2.1)), (a4, .inl (cI, 13, .inl K.2.2.2.2))] H := hP
  have hD : va_D A [(a0, .inr (0, [.ref a1, .ref a2, .ref a3, .ref a4, .int (nI (K.1 + 1)), .int (nI en)])), (a1, .inl (cI, 13, .inl (upd K.2.1 (K.1 + 1) 1))), (a2, .inl (cI, 13, .inl (upd K.2.2.1 (K.1 + 1) v))), (a3, .inl (cI, 13, .inl K.2.2.2.1)), (a4, .inl (cI, 13, .inl K.2.2.2.2))] := hD
  refine lv_aload_n hx hb dn_C_addObject_40 rfl (lv_at hl 0 rfl) ?_
  refine va_get (D := (dC, dI)) (ci := 0) (v := .ref a3) (C := rn_C) (T := tn_C) (N := 6) hx hb hw ml_C hown hK hP 0 rfl rfl 2 (by decide) (hw _ mw_39) (fun _ h9 => h9) rfl dn_C_addObject_41 ?_
  refine lv_aload_n hx hb dn_C_addObject_44 rfl (lv_at hl 0 rfl) ?_
  refine va_get (D := (dC, dI)) (ci := 0) (v := .int (nI (K.1 + 1))) (C := rn_C) (T := tn_C) (N := 6) hx hb hw ml_C hown hK hP 0 rfl rfl 4 (by decide) (hw _ mw_41) (fun _ h9 => h9) rfl dn_C_addObject_45 ?_
  refine lv_iconst (v := 0) hx hb dn_C_addObject_48 (by decide) ?_
  refine gr_iast hx hb hK hP hD hS 3 0 rfl rfl (K.1 + 1) rfl (by omega) (by decide) dn_C_addObject_49 (fun H locs hP hD hS => ?_)
  have hP : va_P (dC, dI) vwCl [(a0, .inr (0, [.ref a1, .ref a2, .ref a3, .ref a4, .int (nI (K.1 + 1)), .int (nI en)])), (a1, .inl (cI, 13, .inl (upd K.2.1 (K.1 + 1) 1))), (a2, .inl (cI, 13, .inl (upd K.2.2.1 (K.1 + 1) v))), (a3, .inl (cI, 13, .inl (upd K.2.2.2.1 (K.1 + 1) 0))), (a4, .inl (cI, 13, .inl K.2.2.2.2))] H := hP
  have hD : va_D A [(a0, .inr (0, [.ref a1, .ref a2, .ref a3, .ref a4, .int (nI (K.1 + 1)), .int (nI en)])), (a1, .inl (cI, 13, .inl (upd K.2.1 (K.1 + 1) 1))), (a2, .inl (cI, 13, .inl (upd K.2.2.1 (K.1 + 1) v))), (a3, .inl (cI, 13, .inl (upd K.2.2.2.1 (K.1 + 1) 0))), (a4, .inl (cI, 13, .inl K.2.2.2.2))] := hD
  refine lv_aload_n hx hb dn_C_addObject_50 rfl (lv_at hl 0 rfl) ?_
  refine va_get (D := (dC, dI)) (ci := 0) (v := .ref a4) (C := rn_C) (T := tn_C) (N := 6) hx hb hw ml_C hown hK hP 0 rfl rfl 3 (by decide) (hw _ mw_40) (fun _ h9 => h9) rfl dn_C_addObject_51 ?_
  refine lv_aload_n hx hb dn_C_addObject_54 rfl (lv_at hl 0 rfl) ?_
  refine va_get (D := (dC, dI)) (ci := 0) (v := .int (nI (K.1 + 1))) (C := rn_C) (T := tn_C) (N := 6) hx hb hw ml_C hown hK hP 0 rfl rfl 4 (by decide) (hw _ mw_41) (fun _ h9 => h9) rfl dn_C_addObject_55 ?_
  refine lv_aload_n hx hb dn_C_addObject_58 rfl (lv_at hl 0 rfl) ?_
  refine va_get (D := (dC, dI)) (ci := 0) (v := .int (nI en)) (C := rn_C) (T := tn_C) (N := 6) hx hb hw ml_C hown hK hP 0 rfl rfl 5 (by decide) (hw _ mw_42) (fun _ h9 => h9) rfl dn_C_addObject_59 ?_
  refine gr_iast hx hb hK hP hD hS 4 0 rfl rfl (K.1 + 1) rfl (by omega) (by decide) dn_C_addObject_62 (fun H locs hP hD hS => ?_)
  have hP : va_P (dC, dI) vwCl [(a0, .inr (0, [.ref a1, .ref a2, .ref a3, .ref a4, .int (nI (K.1 + 1)), .int (nI en)])), (a1, .inl (cI, 13, .inl (upd K.2.1 (K.1 + 1) 1))), (a2, .inl (cI, 13, .inl (upd K.2.2.1 (K.1 + 1) v))), (a3, .inl (cI, 13, .inl (upd K.2.2.2.1 (K.1 + 1) 0))), (a4, .inl (cI, 13, .inl (upd K.2.2.2.2 (K.1 + 1) (nI en))))] H := hP
  have hD : va_D A [(a0, .inr (0, [.ref a1, .ref a2, .ref a3, .ref a4, .int (nI (K.1 + 1)), .int (nI en)])), (a1, .inl (cI, 13, .inl (upd K.2.1 (K.1 + 1) 1))), (a2, .inl (cI, 13, .inl (upd K.2.2.1 (K.1 + 1) v))), (a3, .inl (cI, 13, .inl (upd K.2.2.2.1 (K.1 + 1) 0))), (a4, .inl (cI, 13, .inl (upd K.2.2.2.2 (K.1 + 1) (nI en))))] := hD
  exact hret () _ _ _ _ trivial hP hD hS dn_C_addObject_63

set_option maxRecDepth 100000 in
set_option maxHeartbeats 4000000 in
theorem c_C_changeObject2 (l : Launch) (dC : Nat → ClassId) (dI : Nat → Nat → Nat) (cI cZ : ClassId) (a0 a1 a2 a3 a4 : Nat) (K : ct_T) (en : Nat) (ho : K.1 ≤ 12) (j : Nat) (hj1 : 1 ≤ j) (hj2 : j ≤ K.1) (v : Int32) : gc_V l yn_C_changeObject (gw yn_C_changeObject cn_C_changeObject 4 none) (rm_ 0 0) (dC, dI) vwCl (gT cI cZ) [.ref a0, .int 2, .int (nI j), .int v] [(a0, .inr (0, [.ref a1, .ref a2, .ref a3, .ref a4, .int (nI K.1), .int (nI en)])), (a1, .inl (cI, 13, .inl K.2.1)), (a2, .inl (cI, 13, .inl K.2.2.1)), (a3, .inl (cI, 13, .inl K.2.2.2.1)), (a4, .inl (cI, 13, .inl K.2.2.2.2))] (fun (_ : Unit) => True) (fun _ => [(a0, .inr (0, [.ref a1, .ref a2, .ref a3, .ref a4, .int (nI K.1), .int (nI en)])), (a1, .inl (cI, 13, .inl K.2.1)), (a2, .inl (cI, 13, .inl (upd K.2.2.1 j v))), (a3, .inl (cI, 13, .inl K.2.2.2.1)), (a4, .inl (cI, 13, .inl K.2.2.2.2))]) := by
  refine gc_V_of (cc := cn_C_changeObject) (maxL := 4) (by decide) rfl (Nat.le_of_ble_eq_true rfl) ?_
  intro pp ee ss mm ar be me cd A Q ls H0 H locs hx hb hml hown hts hK hP hD hS hA hl hret
  have hw : ∀ w ∈ gw_T, w.before ar ss = true := fun w h => hts w (List.mem_cons_of_mem _ h)
  have hl : lv_has ls 4 [(0, .ref a0), (1, .int 2), (2, .int (nI j)), (3, .int v)] := hl
  refine lv_iload_n hx hb dn_C_changeObject_0 rfl (lv_at hl 1 rfl) ?_
  refine lv_tableIn (off := 35) (tgt := 36) hx hb dn_C_changeObject_1 (by decide) (by decide) rfl (by decide) ?_
  refine lv_aload_n hx hb dn_C_changeObject_36 rfl (lv_at hl 0 rfl) ?_
  refine va_get (D := (dC, dI)) (ci := 0) (v := .ref a2) (C := rn_C) (T := tn_C) (N := 6) hx hb hw ml_C hown hK hP 0 rfl rfl 1 (by decide) (hw _ mw_38) (fun _ h9 => h9) rfl dn_C_changeObject_37 ?_
  refine lv_iload_n hx hb dn_C_changeObject_40 rfl (lv_at hl 2 rfl) ?_
  refine lv_iload_n hx hb dn_C_changeObject_41 rfl (lv_at hl 3 rfl) ?_
  refine gr_iast hx hb hK hP hD hS 2 0 rfl rfl j rfl (by omega) (by decide) dn_C_changeObject_42 (fun H locs hP hD hS => ?_)
  have hP : va_P (dC, dI) vwCl [(a0, .inr (0, [.ref a1, .ref a2, .ref a3, .ref a4, .int (nI K.1), .int (nI en)])), (a1, .inl (cI, 13, .inl K.2.1)), (a2, .inl (cI, 13, .inl (upd K.2.2.1 j v))), (a3, .inl (cI, 13, .inl K.2.2.2.1)), (a4, .inl (cI, 13, .inl K.2.2.2.2))] H := hP
  have hD : va_D A [(a0, .inr (0, [.ref a1, .ref a2, .ref a3, .ref a4, .int (nI K.1), .int (nI en)])), (a1, .inl (cI, 13, .inl K.2.1)), (a2, .inl (cI, 13, .inl (upd K.2.2.1 j v))), (a3, .inl (cI, 13, .inl K.2.2.2.1)), (a4, .inl (cI, 13, .inl K.2.2.2.2))] := hD
  refine lv_goto (tgt := 98) hx hb dn_C_changeObject_43 (by decide) ?_
  exact hret () _ _ _ _ trivial hP hD hS dn_C_changeObject_98

set_option maxRecDepth 100000 in
set_option maxHeartbeats 4000000 in
theorem c_C_changeObject3 (l : Launch) (dC : Nat → ClassId) (dI : Nat → Nat → Nat) (cI cZ : ClassId) (a0 a1 a2 a3 a4 : Nat) (K : ct_T) (en : Nat) (ho : K.1 ≤ 12) (j : Nat) (hj1 : 1 ≤ j) (hj2 : j ≤ K.1) (v : Int32) : gc_V l yn_C_changeObject (gw yn_C_changeObject cn_C_changeObject 4 none) (rm_ 0 0) (dC, dI) vwCl (gT cI cZ) [.ref a0, .int 3, .int (nI j), .int v] [(a0, .inr (0, [.ref a1, .ref a2, .ref a3, .ref a4, .int (nI K.1), .int (nI en)])), (a1, .inl (cI, 13, .inl K.2.1)), (a2, .inl (cI, 13, .inl K.2.2.1)), (a3, .inl (cI, 13, .inl K.2.2.2.1)), (a4, .inl (cI, 13, .inl K.2.2.2.2))] (fun (_ : Unit) => True) (fun _ => [(a0, .inr (0, [.ref a1, .ref a2, .ref a3, .ref a4, .int (nI K.1), .int (nI en)])), (a1, .inl (cI, 13, .inl K.2.1)), (a2, .inl (cI, 13, .inl K.2.2.1)), (a3, .inl (cI, 13, .inl (upd K.2.2.2.1 j (K.2.2.2.1 j ||| ((1 : Int32) <<< (v &&& 31)))))), (a4, .inl (cI, 13, .inl K.2.2.2.2))]) := by
  refine gc_V_of (cc := cn_C_changeObject) (maxL := 4) (by decide) rfl (Nat.le_of_ble_eq_true rfl) ?_
  intro pp ee ss mm ar be me cd A Q ls H0 H locs hx hb hml hown hts hK hP hD hS hA hl hret
  have hw : ∀ w ∈ gw_T, w.before ar ss = true := fun w h => hts w (List.mem_cons_of_mem _ h)
  have hl : lv_has ls 4 [(0, .ref a0), (1, .int 3), (2, .int (nI j)), (3, .int v)] := hl
  refine lv_iload_n hx hb dn_C_changeObject_0 rfl (lv_at hl 1 rfl) ?_
  refine lv_tableIn (off := 45) (tgt := 46) hx hb dn_C_changeObject_1 (by decide) (by decide) rfl (by decide) ?_
  refine lv_aload_n hx hb dn_C_changeObject_46 rfl (lv_at hl 0 rfl) ?_
  refine va_get (D := (dC, dI)) (ci := 0) (v := .ref a3) (C := rn_C) (T := tn_C) (N := 6) hx hb hw ml_C hown hK hP 0 rfl rfl 2 (by decide) (hw _ mw_39) (fun _ h9 => h9) rfl dn_C_changeObject_47 ?_
  refine lv_iload_n hx hb dn_C_changeObject_50 rfl (lv_at hl 2 rfl) ?_
  refine lv_dup2_11 hx hb dn_C_changeObject_51 rfl rfl ?_
  refine gr_iald hx hb hK hP 3 0 rfl rfl j rfl (by omega) (by decide) dn_C_changeObject_52 ?_
  refine lv_iconst (v := 1) hx hb dn_C_changeObject_53 (by decide) ?_
  refine lv_iload_n hx hb dn_C_changeObject_54 rfl (lv_at hl 3 rfl) ?_
  refine lv_ishl hx hb dn_C_changeObject_55 ?_
  refine lv_ior hx hb dn_C_changeObject_56 ?_
  refine gr_iast hx hb hK hP hD hS 3 0 rfl rfl j rfl (by omega) (by decide) dn_C_changeObject_57 (fun H locs hP hD hS => ?_)
  have hP : va_P (dC, dI) vwCl [(a0, .inr (0, [.ref a1, .ref a2, .ref a3, .ref a4, .int (nI K.1), .int (nI en)])), (a1, .inl (cI, 13, .inl K.2.1)), (a2, .inl (cI, 13, .inl K.2.2.1)), (a3, .inl (cI, 13, .inl (upd K.2.2.2.1 j ((K.2.2.2.1 j) ||| (1 <<< (v &&& 31)))))), (a4, .inl (cI, 13, .inl K.2.2.2.2))] H := hP
  have hD : va_D A [(a0, .inr (0, [.ref a1, .ref a2, .ref a3, .ref a4, .int (nI K.1), .int (nI en)])), (a1, .inl (cI, 13, .inl K.2.1)), (a2, .inl (cI, 13, .inl K.2.2.1)), (a3, .inl (cI, 13, .inl (upd K.2.2.2.1 j ((K.2.2.2.1 j) ||| (1 <<< (v &&& 31)))))), (a4, .inl (cI, 13, .inl K.2.2.2.2))] := hD
  refine lv_goto (tgt := 98) hx hb dn_C_changeObject_58 (by decide) ?_
  exact hret () _ _ _ _ trivial hP hD hS dn_C_changeObject_98

set_option maxRecDepth 100000 in
set_option maxHeartbeats 4000000 in
theorem c_C_changeObject4 (l : Launch) (dC : Nat → ClassId) (dI : Nat → Nat → Nat) (cI cZ : ClassId) (a0 a1 a2 a3 a4 : Nat) (K : ct_T) (en : Nat) (ho : K.1 ≤ 12) (j : Nat) (hj1 : 1 ≤ j) (hj2 : j ≤ K.1) (v : Int32) : gc_V l yn_C_changeObject (gw yn_C_changeObject cn_C_changeObject 4 none) (rm_ 0 0) (dC, dI) vwCl (gT cI cZ) [.ref a0, .int 4, .int (nI j), .int v] [(a0, .inr (0, [.ref a1, .ref a2, .ref a3, .ref a4, .int (nI K.1), .int (nI en)])), (a1, .inl (cI, 13, .inl K.2.1)), (a2, .inl (cI, 13, .inl K.2.2.1)), (a3, .inl (cI, 13, .inl K.2.2.2.1)), (a4, .inl (cI, 13, .inl K.2.2.2.2))] (fun (_ : Unit) => True) (fun _ => [(a0, .inr (0, [.ref a1, .ref a2, .ref a3, .ref a4, .int (nI K.1), .int (nI en)])), (a1, .inl (cI, 13, .inl K.2.1)), (a2, .inl (cI, 13, .inl K.2.2.1)), (a3, .inl (cI, 13, .inl (upd K.2.2.2.1 j (K.2.2.2.1 j &&& (((1 : Int32) <<< (v &&& 31)) ^^^ (-1)))))), (a4, .inl (cI, 13, .inl K.2.2.2.2))]) := by
  refine gc_V_of (cc := cn_C_changeObject) (maxL := 4) (by decide) rfl (Nat.le_of_ble_eq_true rfl) ?_
  intro pp ee ss mm ar be me cd A Q ls H0 H locs hx hb hml hown hts hK hP hD hS hA hl hret
  have hw : ∀ w ∈ gw_T, w.before ar ss = true := fun w h => hts w (List.mem_cons_of_mem _ h)
  have hl : lv_has ls 4 [(0, .ref a0), (1, .int 4), (2, .int (nI j)), (3, .int v)] := hl
  refine lv_iload_n hx hb dn_C_changeObject_0 rfl (lv_at hl 1 rfl) ?_
  refine lv_tableIn (off := 60) (tgt := 61) hx hb dn_C_changeObject_1 (by decide) (by decide) rfl (by decide) ?_
  refine lv_aload_n hx hb dn_C_changeObject_61 rfl (lv_at hl 0 rfl) ?_
  refine va_get (D := (dC, dI)) (ci := 0) (v := .ref a3) (C := rn_C) (T := tn_C) (N := 6) hx hb hw ml_C hown hK hP 0 rfl rfl 2 (by decide) (hw _ mw_39) (fun _ h9 => h9) rfl dn_C_changeObject_62 ?_
  refine lv_iload_n hx hb dn_C_changeObject_65 rfl (lv_at hl 2 rfl) ?_
  refine lv_dup2_11 hx hb dn_C_changeObject_66 rfl rfl ?_
  refine gr_iald hx hb hK hP 3 0 rfl rfl j rfl (by omega) (by decide) dn_C_changeObject_67 ?_
  refine lv_iconst (v := 1) hx hb dn_C_changeObject_68 (by decide) ?_
  refine lv_iload_n hx hb dn_C_changeObject_69 rfl (lv_at hl 3 rfl) ?_
  refine lv_ishl hx hb dn_C_changeObject_70 ?_
  refine lv_iconst (v := (-1)) hx hb dn_C_changeObject_71 (by decide) ?_
  refine lv_ixor hx hb dn_C_changeObject_72 ?_
  refine lv_iand hx hb dn_C_changeObject_73 ?_
  refine gr_iast hx hb hK hP hD hS 3 0 rfl rfl j rfl (by omega) (by decide) dn_C_changeObject_74 (fun H locs hP hD hS => ?_)
  have hP : va_P (dC, dI) vwCl [(a0, .inr (0, [.ref a1, .ref a2, .ref a3, .ref a4, .int (nI K.1), .int (nI en)])), (a1, .inl (cI, 13, .inl K.2.1)), (a2, .inl (cI, 13, .inl K.2.2.1)), (a3, .inl (cI, 13, .inl (upd K.2.2.2.1 j ((K.2.2.2.1 j) &&& ((1 <<< (v &&& 31)) ^^^ (-1)))))), (a4, .inl (cI, 13, .inl K.2.2.2.2))] H := hP
  have hD : va_D A [(a0, .inr (0, [.ref a1, .ref a2, .ref a3, .ref a4, .int (nI K.1), .int (nI en)])), (a1, .inl (cI, 13, .inl K.2.1)), (a2, .inl (cI, 13, .inl K.2.2.1)), (a3, .inl (cI, 13, .inl (upd K.2.2.2.1 j ((K.2.2.2.1 j) &&& ((1 <<< (v &&& 31)) ^^^ (-1)))))), (a4, .inl (cI, 13, .inl K.2.2.2.2))] := hD
  refine lv_goto (tgt := 98) hx hb dn_C_changeObject_75 (by decide) ?_
  exact hret () _ _ _ _ trivial hP hD hS dn_C_changeObject_98

set_option maxRecDepth 100000 in
set_option maxHeartbeats 4000000 in
theorem c_C_changeObject5 (l : Launch) (dC : Nat → ClassId) (dI : Nat → Nat → Nat) (cI cZ : ClassId) (a0 a1 a2 a3 a4 : Nat) (K : ct_T) (en : Nat) (ho : K.1 ≤ 12) (j : Nat) (hj1 : 1 ≤ j) (hj2 : j ≤ K.1) (v : Int32) : gc_V l yn_C_changeObject (gw yn_C_changeObject cn_C_changeObject 4 none) (rm_ 0 0) (dC, dI) vwCl (gT cI cZ) [.ref a0, .int 5, .int (nI j), .int v] [(a0, .inr (0, [.ref a1, .ref a2, .ref a3, .ref a4, .int (nI K.1), .int (nI en)])), (a1, .inl (cI, 13, .inl K.2.1)), (a2, .inl (cI, 13, .inl K.2.2.1)), (a3, .inl (cI, 13, .inl K.2.2.2.1)), (a4, .inl (cI, 13, .inl K.2.2.2.2))] (fun (_ : Unit) => True) (fun _ => [(a0, .inr (0, [.ref a1, .ref a2, .ref a3, .ref a4, .int (nI K.1), .int (nI en)])), (a1, .inl (cI, 13, .inl (upd K.2.1 j 2))), (a2, .inl (cI, 13, .inl K.2.2.1)), (a3, .inl (cI, 13, .inl K.2.2.2.1)), (a4, .inl (cI, 13, .inl K.2.2.2.2))]) := by
  refine gc_V_of (cc := cn_C_changeObject) (maxL := 4) (by decide) rfl (Nat.le_of_ble_eq_true rfl) ?_
  intro pp ee ss mm ar be me cd A Q ls H0 H locs hx hb hml hown hts hK hP hD hS hA hl hret
  have hw : ∀ w ∈ gw_T, w.before ar ss = true := fun w h => hts w (List.mem_cons_of_mem _ h)
  have hl : lv_has ls 4 [(0, .ref a0), (1, .int 5), (2, .int (nI j)), (3, .int v)] := hl
  refine lv_iload_n hx hb dn_C_changeObject_0 rfl (lv_at hl 1 rfl) ?_
  refine lv_tableIn (off := 77) (tgt := 78) hx hb dn_C_changeObject_1 (by decide) (by decide) rfl (by decide) ?_
  refine lv_aload_n hx hb dn_C_changeObject_78 rfl (lv_at hl 0 rfl) ?_
  refine va_get (D := (dC, dI)) (ci := 0) (v := .ref a1) (C := rn_C) (T := tn_C) (N := 6) hx hb hw ml_C hown hK hP 0 rfl rfl 0 (by decide) (hw _ mw_37) (fun _ h9 => h9) rfl dn_C_changeObject_79 ?_
  refine lv_iload_n hx hb dn_C_changeObject_82 rfl (lv_at hl 2 rfl) ?_
  refine lv_iconst (v := 2) hx hb dn_C_changeObject_83 (by decide) ?_
  refine gr_iast hx hb hK hP hD hS 1 0 rfl rfl j rfl (by omega) (by decide) dn_C_changeObject_84 (fun H locs hP hD hS => ?_)
  have hP : va_P (dC, dI) vwCl [(a0, .inr (0, [.ref a1, .ref a2, .ref a3, .ref a4, .int (nI K.1), .int (nI en)])), (a1, .inl (cI, 13, .inl (upd K.2.1 j 2))), (a2, .inl (cI, 13, .inl K.2.2.1)), (a3, .inl (cI, 13, .inl K.2.2.2.1)), (a4, .inl (cI, 13, .inl K.2.2.2.2))] H := hP
  have hD : va_D A [(a0, .inr (0, [.ref a1, .ref a2, .ref a3, .ref a4, .int (nI K.1), .int (nI en)])), (a1, .inl (cI, 13, .inl (upd K.2.1 j 2))), (a2, .inl (cI, 13, .inl K.2.2.1)), (a3, .inl (cI, 13, .inl K.2.2.2.1)), (a4, .inl (cI, 13, .inl K.2.2.2.2))] := hD
  refine lv_goto (tgt := 98) hx hb dn_C_changeObject_85 (by decide) ?_
  exact hret () _ _ _ _ trivial hP hD hS dn_C_changeObject_98

set_option maxRecDepth 100000 in
set_option maxHeartbeats 4000000 in
theorem c_C_changeObject6 (l : Launch) (dC : Nat → ClassId) (dI : Nat → Nat → Nat) (cI cZ : ClassId) (a0 a1 a2 a3 a4 : Nat) (K : ct_T) (en : Nat) (ho : K.1 ≤ 12) (j : Nat) (hj1 : 1 ≤ j) (hj2 : j ≤ K.1) (v : Int32) : gc_V l yn_C_changeObject (gw yn_C_changeObject cn_C_changeObject 4 none) (rm_ 0 0) (dC, dI) vwCl (gT cI cZ) [.ref a0, .int 6, .int (nI j), .int v] [(a0, .inr (0, [.ref a1, .ref a2, .ref a3, .ref a4, .int (nI K.1), .int (nI en)])), (a1, .inl (cI, 13, .inl K.2.1)), (a2, .inl (cI, 13, .inl K.2.2.1)), (a3, .inl (cI, 13, .inl K.2.2.2.1)), (a4, .inl (cI, 13, .inl K.2.2.2.2))] (fun (_ : Unit) => True) (fun _ => [(a0, .inr (0, [.ref a1, .ref a2, .ref a3, .ref a4, .int (nI K.1), .int (nI en)])), (a1, .inl (cI, 13, .inl (upd K.2.1 j 3))), (a2, .inl (cI, 13, .inl K.2.2.1)), (a3, .inl (cI, 13, .inl K.2.2.2.1)), (a4, .inl (cI, 13, .inl K.2.2.2.2))]) := by
  refine gc_V_of (cc := cn_C_changeObject) (maxL := 4) (by decide) rfl (Nat.le_of_ble_eq_true rfl) ?_
  intro pp ee ss mm ar be me cd A Q ls H0 H locs hx hb hml hown hts hK hP hD hS hA hl hret
  have hw : ∀ w ∈ gw_T, w.before ar ss = true := fun w h => hts w (List.mem_cons_of_mem _ h)
  have hl : lv_has ls 4 [(0, .ref a0), (1, .int 6), (2, .int (nI j)), (3, .int v)] := hl
  refine lv_iload_n hx hb dn_C_changeObject_0 rfl (lv_at hl 1 rfl) ?_
  refine lv_tableIn (off := 87) (tgt := 88) hx hb dn_C_changeObject_1 (by decide) (by decide) rfl (by decide) ?_
  refine lv_aload_n hx hb dn_C_changeObject_88 rfl (lv_at hl 0 rfl) ?_
  refine va_get (D := (dC, dI)) (ci := 0) (v := .ref a1) (C := rn_C) (T := tn_C) (N := 6) hx hb hw ml_C hown hK hP 0 rfl rfl 0 (by decide) (hw _ mw_37) (fun _ h9 => h9) rfl dn_C_changeObject_89 ?_
  refine lv_iload_n hx hb dn_C_changeObject_92 rfl (lv_at hl 2 rfl) ?_
  refine lv_iconst (v := 3) hx hb dn_C_changeObject_93 (by decide) ?_
  refine gr_iast hx hb hK hP hD hS 1 0 rfl rfl j rfl (by omega) (by decide) dn_C_changeObject_94 (fun H locs hP hD hS => ?_)
  have hP : va_P (dC, dI) vwCl [(a0, .inr (0, [.ref a1, .ref a2, .ref a3, .ref a4, .int (nI K.1), .int (nI en)])), (a1, .inl (cI, 13, .inl (upd K.2.1 j 3))), (a2, .inl (cI, 13, .inl K.2.2.1)), (a3, .inl (cI, 13, .inl K.2.2.2.1)), (a4, .inl (cI, 13, .inl K.2.2.2.2))] H := hP
  have hD : va_D A [(a0, .inr (0, [.ref a1, .ref a2, .ref a3, .ref a4, .int (nI K.1), .int (nI en)])), (a1, .inl (cI, 13, .inl (upd K.2.1 j 3))), (a2, .inl (cI, 13, .inl K.2.2.1)), (a3, .inl (cI, 13, .inl K.2.2.2.1)), (a4, .inl (cI, 13, .inl K.2.2.2.2))] := hD
  refine lv_goto (tgt := 98) hx hb dn_C_changeObject_95 (by decide) ?_
  exact hret () _ _ _ _ trivial hP hD hS dn_C_changeObject_98
end
section
set_option maxRecDepth 100000 in
set_option maxHeartbeats 4000000 in
theorem c_C_enter (l : Launch) (dC : Nat → ClassId) (dI : Nat → Nat → Nat) (cI cZ : ClassId) (a0 a1 a2 a3 a4 : Nat) (K : ct_T) (en : Nat) (ho : K.1 ≤ 12) (hG : ∀ j, 1 ≤ j → j ≤ K.1 → ∃ g, g < 256 ∧ K.2.2.2.1 j = nI g) (kind id v t : Int32) (hr : ct_ruC K kind id v t = 0) (k1 : 1 ≤ kind) (k6 : kind ≤ 6) : gc_V l yn_C_enter (gw yn_C_enter cn_C_enter 4 none) (rm_ 1 23) (dC, dI) vwCl (gT cI cZ) [.ref a0, .int kind, .int id, .int v] [(a0, .inr (0, [.ref a1, .ref a2, .ref a3, .ref a4, .int (nI K.1), .int (nI en)])), (a1, .inl (cI, 13, .inl K.2.1)), (a2, .inl (cI, 13, .inl K.2.2.1)), (a3, .inl (cI, 13, .inl K.2.2.2.1)), (a4, .inl (cI, 13, .inl K.2.2.2.2))] (fun (u : ct_T) => u = ct_ap K en kind id v) (fun u => [(a0, .inr (0, [.ref a1, .ref a2, .ref a3, .ref a4, .int (nI u.1), .int (nI (en + 1))])), (a1, .inl (cI, 13, .inl u.2.1)), (a2, .inl (cI, 13, .inl u.2.2.1)), (a3, .inl (cI, 13, .inl u.2.2.2.1)), (a4, .inl (cI, 13, .inl u.2.2.2.2))]) := by
  refine gc_V_of (cc := cn_C_enter) (maxL := 4) (by decide) rfl (Nat.le_of_ble_eq_true rfl) ?_
  intro pp ee ss mm ar be me cd A Q ls H0 H locs hx hb hml hown hts hK hP hD hS hA hl hret
  have hw : ∀ w ∈ gw_T, w.before ar ss = true := fun w h => hts w (List.mem_cons_of_mem _ h)
  have hl : lv_has ls 4 [(0, .ref a0), (1, .int kind), (2, .int id), (3, .int v)] := hl
  rcases ct_kind k1 k6 with rfl | rfl | rfl | rfl | rfl | rfl
  · skip
    have hlt : K.1 < 12 := (ct_ru_put hr).1
    refine lv_iload_n hx hb dn_C_enter_0 rfl (lv_at hl 1 rfl) ?_
    refine lv_iconst (v := 1) hx hb dn_C_enter_1 (by decide) ?_
    refine lv_icmp_ne (tgt := 13) hx hb dn_C_enter_2 (by decide) (fun h => absurd h (by decide)) (fun _ => ?_)
    refine lv_aload_n hx hb dn_C_enter_5 rfl (lv_at hl 0 rfl) ?_
    refine lv_iload_n hx hb dn_C_enter_6 rfl (lv_at hl 3 rfl) ?_
    refine gc_vv (pre := []) (wc := [(a0, .inr (0, [.ref a1, .ref a2, .ref a3, .ref a4, .int (nI K.1), .int (nI en)])), (a1, .inl (cI, 13, .inl K.2.1)), (a2, .inl (cI, 13, .inl K.2.2.1)), (a3, .inl (cI, 13, .inl K.2.2.2.1)), (a4, .inl (cI, 13, .inl K.2.2.2.2))]) (po := []) (As := [.int v]) (rest := []) ⟨hx, hb, hml, hown, hw⟩ (c_C_addObject l dC dI cI cZ a0 a1 a2 a3 a4 K en (by omega) (by omega) v) (gw_cV 1 hw mw_220 mw_222 mv_9 mw_3 mw_223 hd_C_addObject ⟨Nat.le_of_ble_eq_true rfl, Nat.le_of_ble_eq_true rfl⟩) (ci := 0) rfl rfl rfl hK hP hD hS hA rfl hl.1 rfl (Nat.le_of_ble_eq_true rfl) dn_C_enter_7 ⟨Nat.zero_le _, Nat.zero_le _⟩ (fun u7 H locs hc7 hP hD hS => ?_)
    have hP : va_P (dC, dI) vwCl [(a0, .inr (0, [.ref a1, .ref a2, .ref a3, .ref a4, .int (nI (K.1 + 1)), .int (nI en)])), (a1, .inl (cI, 13, .inl (upd K.2.1 (K.1 + 1) 1))), (a2, .inl (cI, 13, .inl (upd K.2.2.1 (K.1 + 1) v))), (a3, .inl (cI, 13, .inl (upd K.2.2.2.1 (K.1 + 1) 0))), (a4, .inl (cI, 13, .inl (upd K.2.2.2.2 (K.1 + 1) (nI en))))] H := hP
    have hD : va_D A [(a0, .inr (0, [.ref a1, .ref a2, .ref a3, .ref a4, .int (nI (K.1 + 1)), .int (nI en)])), (a1, .inl (cI, 13, .inl (upd K.2.1 (K.1 + 1) 1))), (a2, .inl (cI, 13, .inl (upd K.2.2.1 (K.1 + 1) v))), (a3, .inl (cI, 13, .inl (upd K.2.2.2.1 (K.1 + 1) 0))), (a4, .inl (cI, 13, .inl (upd K.2.2.2.2 (K.1 + 1) (nI en))))] := hD
    refine lv_goto (tgt := 28) hx hb dn_C_enter_10 (by decide) ?_
    refine lv_aload_n hx hb dn_C_enter_28 rfl (lv_at hl 0 rfl) ?_
    refine lv_dup hx hb dn_C_enter_29 rfl ?_
    refine va_get (D := (dC, dI)) (ci := 0) (v := .int (nI en)) (C := rn_C) (T := tn_C) (N := 6) hx hb hw ml_C hown hK hP 0 rfl rfl 5 (by decide) (hw _ mw_42) (fun _ h9 => h9) rfl dn_C_enter_30 ?_
    refine lv_iconst (v := 1) hx hb dn_C_enter_33 (by decide) ?_
    refine gr_addN hx hb en 1 rfl rfl dn_C_enter_34 ?_
    refine va_put (D := (dC, dI)) (ci := 0) (v := .int (nI (en + 1))) (ty := .int) (C := rn_C) (T := tn_C) (N := 6) hx hb hw ml_C tt_C to_C nd_C hown hK hP hD hS 0 rfl rfl 5 (by decide) (hw _ mw_42) (fun _ h9 => h9) rfl (by decide +kernel) rfl rfl (Nat.le_of_ble_eq_true rfl) dn_C_enter_35 (fun H locs hP hD hS => ?_)
    have hP : va_P (dC, dI) vwCl [(a0, .inr (0, [.ref a1, .ref a2, .ref a3, .ref a4, .int (nI (K.1 + 1)), .int (nI (en + 1))])), (a1, .inl (cI, 13, .inl (upd K.2.1 (K.1 + 1) 1))), (a2, .inl (cI, 13, .inl (upd K.2.2.1 (K.1 + 1) v))), (a3, .inl (cI, 13, .inl (upd K.2.2.2.1 (K.1 + 1) 0))), (a4, .inl (cI, 13, .inl (upd K.2.2.2.2 (K.1 + 1) (nI en))))] H := hP
    have hD : va_D A [(a0, .inr (0, [.ref a1, .ref a2, .ref a3, .ref a4, .int (nI (K.1 + 1)), .int (nI (en + 1))])), (a1, .inl (cI, 13, .inl (upd K.2.1 (K.1 + 1) 1))), (a2, .inl (cI, 13, .inl (upd K.2.2.1 (K.1 + 1) v))), (a3, .inl (cI, 13, .inl (upd K.2.2.2.1 (K.1 + 1) 0))), (a4, .inl (cI, 13, .inl (upd K.2.2.2.2 (K.1 + 1) (nI en))))] := hD
    exact hret ((K.1 + 1), upd K.2.1 (K.1 + 1) 1, upd K.2.2.1 (K.1 + 1) v, upd K.2.2.2.1 (K.1 + 1) 0, upd K.2.2.2.2 (K.1 + 1) (nI en)) _ _ _ _ (ap_1 K en id v) hP hD hS dn_C_enter_38
  · skip
    refine lv_iload_n hx hb dn_C_enter_0 rfl (lv_at hl 1 rfl) ?_
    refine lv_iconst (v := 1) hx hb dn_C_enter_1 (by decide) ?_
    refine lv_icmp_ne (tgt := 13) hx hb dn_C_enter_2 (by decide) (fun _ => ?_) (fun h => absurd h (by decide))
    refine lv_aload_n hx hb dn_C_enter_13 rfl (lv_at hl 0 rfl) ?_
    refine lv_iload_n hx hb dn_C_enter_14 rfl (lv_at hl 2 rfl) ?_
    refine gc_vi (pre := []) (wc := [(a0, .inr (0, [.ref a1, .ref a2, .ref a3, .ref a4, .int (nI K.1), .int (nI en)])), (a1, .inl (cI, 13, .inl K.2.1)), (a2, .inl (cI, 13, .inl K.2.2.1)), (a3, .inl (cI, 13, .inl K.2.2.2.1)), (a4, .inl (cI, 13, .inl K.2.2.2.2))]) (po := []) (As := [.int id]) (rest := []) ⟨hx, hb, hml, hown, hw⟩ (c_C_isThere l dC dI cI cZ a0 a1 a2 a3 a4 K en (by omega) id) (gw_cV 1 hw mw_158 mw_159 mw_160 mw_3 mw_161 hd_C_isThere ⟨Nat.le_of_ble_eq_true rfl, Nat.le_of_ble_eq_true rfl⟩) (ci := 0) rfl rfl rfl hK hP hD hS hA rfl hl.1 rfl (Nat.le_of_ble_eq_true rfl) dn_C_enter_15 ⟨Nat.zero_le _, Nat.zero_le _⟩ (fun r15 u15 H locs hc15 hP hD hS => ?_)
    have hP : va_P (dC, dI) vwCl [(a0, .inr (0, [.ref a1, .ref a2, .ref a3, .ref a4, .int (nI K.1), .int (nI en)])), (a1, .inl (cI, 13, .inl K.2.1)), (a2, .inl (cI, 13, .inl K.2.2.1)), (a3, .inl (cI, 13, .inl K.2.2.2.1)), (a4, .inl (cI, 13, .inl K.2.2.2.2))] H := hP
    have hD : va_D A [(a0, .inr (0, [.ref a1, .ref a2, .ref a3, .ref a4, .int (nI K.1), .int (nI en)])), (a1, .inl (cI, 13, .inl K.2.1)), (a2, .inl (cI, 13, .inl K.2.2.1)), (a3, .inl (cI, 13, .inl K.2.2.2.1)), (a4, .inl (cI, 13, .inl K.2.2.2.2))] := hD
    rcases hc15 with ⟨rfl, j15, j15a, j15b, rfl⟩ | ⟨rfl, hno15⟩
    · skip
      refine lv_if_eq (tgt := 28) hx hb dn_C_enter_18 (by decide) (fun h => absurd h (by decide)) (fun _ => ?_)
      refine lv_aload_n hx hb dn_C_enter_21 rfl (lv_at hl 0 rfl) ?_
      refine lv_iload_n hx hb dn_C_enter_22 rfl (lv_at hl 1 rfl) ?_
      refine lv_iload_n hx hb dn_C_enter_23 rfl (lv_at hl 2 rfl) ?_
      refine lv_iload_n hx hb dn_C_enter_24 rfl (lv_at hl 3 rfl) ?_
      refine gc_vv (pre := []) (wc := [(a0, .inr (0, [.ref a1, .ref a2, .ref a3, .ref a4, .int (nI K.1), .int (nI en)])), (a1, .inl (cI, 13, .inl K.2.1)), (a2, .inl (cI, 13, .inl K.2.2.1)), (a3, .inl (cI, 13, .inl K.2.2.2.1)), (a4, .inl (cI, 13, .inl K.2.2.2.2))]) (po := []) (As := [.int 2, .int (nI j15), .int v]) (rest := []) ⟨hx, hb, hml, hown, hw⟩ (c_C_changeObject2 l dC dI cI cZ a0 a1 a2 a3 a4 K en (by omega) j15 (by omega) (by omega) v) (gw_cV 3 hw mw_224 mw_226 mv_10 mw_3 mw_227 hd_C_changeObject ⟨Nat.le_of_ble_eq_true rfl, Nat.le_of_ble_eq_true rfl⟩) (ci := 0) rfl rfl rfl hK hP hD hS hA rfl hl.1 rfl (Nat.le_of_ble_eq_true rfl) dn_C_enter_25 ⟨Nat.zero_le _, Nat.zero_le _⟩ (fun u25 H locs hc25 hP hD hS => ?_)
      have hP : va_P (dC, dI) vwCl [(a0, .inr (0, [.ref a1, .ref a2, .ref a3, .ref a4, .int (nI K.1), .int (nI en)])), (a1, .inl (cI, 13, .inl K.2.1)), (a2, .inl (cI, 13, .inl (upd K.2.2.1 j15 v))), (a3, .inl (cI, 13, .inl K.2.2.2.1)), (a4, .inl (cI, 13, .inl K.2.2.2.2))] H := hP
      have hD : va_D A [(a0, .inr (0, [.ref a1, .ref a2, .ref a3, .ref a4, .int (nI K.1), .int (nI en)])), (a1, .inl (cI, 13, .inl K.2.1)), (a2, .inl (cI, 13, .inl (upd K.2.2.1 j15 v))), (a3, .inl (cI, 13, .inl K.2.2.2.1)), (a4, .inl (cI, 13, .inl K.2.2.2.2))] := hD
      refine lv_aload_n hx hb dn_C_enter_28 rfl (lv_at hl 0 rfl) ?_
      refine lv_dup hx hb dn_C_enter_29 rfl ?_
      refine va_get (D := (dC, dI)) (ci := 0) (v := .int (nI en)) (C := rn_C) (T := tn_C) (N := 6) hx hb hw ml_C hown hK hP 0 rfl rfl 5 (by decide) (hw _ mw_42) (fun _ h9 => h9) rfl dn_C_enter_30 ?_
      refine lv_iconst (v := 1) hx hb dn_C_enter_33 (by decide) ?_
      refine gr_addN hx hb en 1 rfl rfl dn_C_enter_34 ?_
      refine va_put (D := (dC, dI)) (ci := 0) (v := .int (nI (en + 1))) (ty := .int) (C := rn_C) (T := tn_C) (N := 6) hx hb hw ml_C tt_C to_C nd_C hown hK hP hD hS 0 rfl rfl 5 (by decide) (hw _ mw_42) (fun _ h9 => h9) rfl (by decide +kernel) rfl rfl (Nat.le_of_ble_eq_true rfl) dn_C_enter_35 (fun H locs hP hD hS => ?_)
      have hP : va_P (dC, dI) vwCl [(a0, .inr (0, [.ref a1, .ref a2, .ref a3, .ref a4, .int (nI K.1), .int (nI (en + 1))])), (a1, .inl (cI, 13, .inl K.2.1)), (a2, .inl (cI, 13, .inl (upd K.2.2.1 j15 v))), (a3, .inl (cI, 13, .inl K.2.2.2.1)), (a4, .inl (cI, 13, .inl K.2.2.2.2))] H := hP
      have hD : va_D A [(a0, .inr (0, [.ref a1, .ref a2, .ref a3, .ref a4, .int (nI K.1), .int (nI (en + 1))])), (a1, .inl (cI, 13, .inl K.2.1)), (a2, .inl (cI, 13, .inl (upd K.2.2.1 j15 v))), (a3, .inl (cI, 13, .inl K.2.2.2.1)), (a4, .inl (cI, 13, .inl K.2.2.2.2))] := hD
      exact hret (K.1, K.2.1, upd K.2.2.1 j15 v, K.2.2.2.1, K.2.2.2.2) _ _ _ _ (ap_2 K en (by omega) v) hP hD hS dn_C_enter_38
    · skip
      exact (ct_ru_no ho (by decide) hr hno15).elim
  · skip
    refine lv_iload_n hx hb dn_C_enter_0 rfl (lv_at hl 1 rfl) ?_
    refine lv_iconst (v := 1) hx hb dn_C_enter_1 (by decide) ?_
    refine lv_icmp_ne (tgt := 13) hx hb dn_C_enter_2 (by decide) (fun _ => ?_) (fun h => absurd h (by decide))
    refine lv_aload_n hx hb dn_C_enter_13 rfl (lv_at hl 0 rfl) ?_
    refine lv_iload_n hx hb dn_C_enter_14 rfl (lv_at hl 2 rfl) ?_
    refine gc_vi (pre := []) (wc := [(a0, .inr (0, [.ref a1, .ref a2, .ref a3, .ref a4, .int (nI K.1), .int (nI en)])), (a1, .inl (cI, 13, .inl K.2.1)), (a2, .inl (cI, 13, .inl K.2.2.1)), (a3, .inl (cI, 13, .inl K.2.2.2.1)), (a4, .inl (cI, 13, .inl K.2.2.2.2))]) (po := []) (As := [.int id]) (rest := []) ⟨hx, hb, hml, hown, hw⟩ (c_C_isThere l dC dI cI cZ a0 a1 a2 a3 a4 K en (by omega) id) (gw_cV 1 hw mw_158 mw_159 mw_160 mw_3 mw_161 hd_C_isThere ⟨Nat.le_of_ble_eq_true rfl, Nat.le_of_ble_eq_true rfl⟩) (ci := 0) rfl rfl rfl hK hP hD hS hA rfl hl.1 rfl (Nat.le_of_ble_eq_true rfl) dn_C_enter_15 ⟨Nat.zero_le _, Nat.zero_le _⟩ (fun r15 u15 H locs hc15 hP hD hS => ?_)
    have hP : va_P (dC, dI) vwCl [(a0, .inr (0, [.ref a1, .ref a2, .ref a3, .ref a4, .int (nI K.1), .int (nI en)])), (a1, .inl (cI, 13, .inl K.2.1)), (a2, .inl (cI, 13, .inl K.2.2.1)), (a3, .inl (cI, 13, .inl K.2.2.2.1)), (a4, .inl (cI, 13, .inl K.2.2.2.2))] H := hP
    have hD : va_D A [(a0, .inr (0, [.ref a1, .ref a2, .ref a3, .ref a4, .int (nI K.1), .int (nI en)])), (a1, .inl (cI, 13, .inl K.2.1)), (a2, .inl (cI, 13, .inl K.2.2.1)), (a3, .inl (cI, 13, .inl K.2.2.2.1)), (a4, .inl (cI, 13, .inl K.2.2.2.2))] := hD
    rcases hc15 with ⟨rfl, j15, j15a, j15b, rfl⟩ | ⟨rfl, hno15⟩
    · skip
      refine lv_if_eq (tgt := 28) hx hb dn_C_enter_18 (by decide) (fun h => absurd h (by decide)) (fun _ => ?_)
      refine lv_aload_n hx hb dn_C_enter_21 rfl (lv_at hl 0 rfl) ?_
      refine lv_iload_n hx hb dn_C_enter_22 rfl (lv_at hl 1 rfl) ?_
      refine lv_iload_n hx hb dn_C_enter_23 rfl (lv_at hl 2 rfl) ?_
      refine lv_iload_n hx hb dn_C_enter_24 rfl (lv_at hl 3 rfl) ?_
      refine gc_vv (pre := []) (wc := [(a0, .inr (0, [.ref a1, .ref a2, .ref a3, .ref a4, .int (nI K.1), .int (nI en)])), (a1, .inl (cI, 13, .inl K.2.1)), (a2, .inl (cI, 13, .inl K.2.2.1)), (a3, .inl (cI, 13, .inl K.2.2.2.1)), (a4, .inl (cI, 13, .inl K.2.2.2.2))]) (po := []) (As := [.int 3, .int (nI j15), .int v]) (rest := []) ⟨hx, hb, hml, hown, hw⟩ (c_C_changeObject3 l dC dI cI cZ a0 a1 a2 a3 a4 K en (by omega) j15 (by omega) (by omega) v) (gw_cV 3 hw mw_224 mw_226 mv_10 mw_3 mw_227 hd_C_changeObject ⟨Nat.le_of_ble_eq_true rfl, Nat.le_of_ble_eq_true rfl⟩) (ci := 0) rfl rfl rfl hK hP hD hS hA rfl hl.1 rfl (Nat.le_of_ble_eq_true rfl) dn_C_enter_25 ⟨Nat.zero_le _, Nat.zero_le _⟩ (fun u25 H locs hc25 hP hD hS => ?_)
      have hP : va_P (dC, dI) vwCl [(a0, .inr (0, [.ref a1, .ref a2, .ref a3, .ref a4, .int (nI K.1), .int (nI en)])), (a1, .inl (cI, 13, .inl K.2.1)), (a2, .inl (cI, 13, .inl K.2.2.1)), (a3, .inl (cI, 13, .inl (upd K.2.2.2.1 j15 (K.2.2.2.1 j15 ||| ((1 : Int32) <<< (v &&& 31)))))), (a4, .inl (cI, 13, .inl K.2.2.2.2))] H := hP
      have hD : va_D A [(a0, .inr (0, [.ref a1, .ref a2, .ref a3, .ref a4, .int (nI K.1), .int (nI en)])), (a1, .inl (cI, 13, .inl K.2.1)), (a2, .inl (cI, 13, .inl K.2.2.1)), (a3, .inl (cI, 13, .inl (upd K.2.2.2.1 j15 (K.2.2.2.1 j15 ||| ((1 : Int32) <<< (v &&& 31)))))), (a4, .inl (cI, 13, .inl K.2.2.2.2))] := hD
      refine lv_aload_n hx hb dn_C_enter_28 rfl (lv_at hl 0 rfl) ?_
      refine lv_dup hx hb dn_C_enter_29 rfl ?_
      refine va_get (D := (dC, dI)) (ci := 0) (v := .int (nI en)) (C := rn_C) (T := tn_C) (N := 6) hx hb hw ml_C hown hK hP 0 rfl rfl 5 (by decide) (hw _ mw_42) (fun _ h9 => h9) rfl dn_C_enter_30 ?_
      refine lv_iconst (v := 1) hx hb dn_C_enter_33 (by decide) ?_
      refine gr_addN hx hb en 1 rfl rfl dn_C_enter_34 ?_
      refine va_put (D := (dC, dI)) (ci := 0) (v := .int (nI (en + 1))) (ty := .int) (C := rn_C) (T := tn_C) (N := 6) hx hb hw ml_C tt_C to_C nd_C hown hK hP hD hS 0 rfl rfl 5 (by decide) (hw _ mw_42) (fun _ h9 => h9) rfl (by decide +kernel) rfl rfl (Nat.le_of_ble_eq_true rfl) dn_C_enter_35 (fun H locs hP hD hS => ?_)
      have hP : va_P (dC, dI) vwCl [(a0, .inr (0, [.ref a1, .ref a2, .ref a3, .ref a4, .int (nI K.1), .int (nI (en + 1))])), (a1, .inl (cI, 13, .inl K.2.1)), (a2, .inl (cI, 13, .inl K.2.2.1)), (a3, .inl (cI, 13, .inl (upd K.2.2.2.1 j15 (K.2.2.2.1 j15 ||| ((1 : Int32) <<< (v &&& 31)))))), (a4, .inl (cI, 13, .inl K.2.2.2.2))] H := hP
      have hD : va_D A [(a0, .inr (0, [.ref a1, .ref a2, .ref a3, .ref a4, .int (nI K.1), .int (nI (en + 1))])), (a1, .inl (cI, 13, .inl K.2.1)), (a2, .inl (cI, 13, .inl K.2.2.1)), (a3, .inl (cI, 13, .inl (upd K.2.2.2.1 j15 (K.2.2.2.1 j15 ||| ((1 : Int32) <<< (v &&& 31)))))), (a4, .inl (cI, 13, .inl K.2.2.2.2))] := hD
      exact hret (K.1, K.2.1, K.2.2.1, upd K.2.2.2.1 j15 (K.2.2.2.1 j15 ||| ((1 : Int32) <<< (v &&& 31))), K.2.2.2.2) _ _ _ _ (ap_3 en j15a j15b ho hG hr) hP hD hS dn_C_enter_38
    · skip
      exact (ct_ru_no ho (by decide) hr hno15).elim
  · skip
    refine lv_iload_n hx hb dn_C_enter_0 rfl (lv_at hl 1 rfl) ?_
    refine lv_iconst (v := 1) hx hb dn_C_enter_1 (by decide) ?_
    refine lv_icmp_ne (tgt := 13) hx hb dn_C_enter_2 (by decide) (fun _ => ?_) (fun h => absurd h (by decide))
    refine lv_aload_n hx hb dn_C_enter_13 rfl (lv_at hl 0 rfl) ?_
    refine lv_iload_n hx hb dn_C_enter_14 rfl (lv_at hl 2 rfl) ?_
    refine gc_vi (pre := []) (wc := [(a0, .inr (0, [.ref a1, .ref a2, .ref a3, .ref a4, .int (nI K.1), .int (nI en)])), (a1, .inl (cI, 13, .inl K.2.1)), (a2, .inl (cI, 13, .inl K.2.2.1)), (a3, .inl (cI, 13, .inl K.2.2.2.1)), (a4, .inl (cI, 13, .inl K.2.2.2.2))]) (po := []) (As := [.int id]) (rest := []) ⟨hx, hb, hml, hown, hw⟩ (c_C_isThere l dC dI cI cZ a0 a1 a2 a3 a4 K en (by omega) id) (gw_cV 1 hw mw_158 mw_159 mw_160 mw_3 mw_161 hd_C_isThere ⟨Nat.le_of_ble_eq_true rfl, Nat.le_of_ble_eq_true rfl⟩) (ci := 0) rfl rfl rfl hK hP hD hS hA rfl hl.1 rfl (Nat.le_of_ble_eq_true rfl) dn_C_enter_15 ⟨Nat.zero_le _, Nat.zero_le _⟩ (fun r15 u15 H locs hc15 hP hD hS => ?_)
    have hP : va_P (dC, dI) vwCl [(a0, .inr (0, [.ref a1, .ref a2, .ref a3, .ref a4, .int (nI K.1), .int (nI en)])), (a1, .inl (cI, 13, .inl K.2.1)), (a2, .inl (cI, 13, .inl K.2.2.1)), (a3, .inl (cI, 13, .inl K.2.2.2.1)), (a4, .inl (cI, 13, .inl K.2.2.2.2))] H := hP
    have hD : va_D A [(a0, .inr (0, [.ref a1, .ref a2, .ref a3, .ref a4, .int (nI K.1), .int (nI en)])), (a1, .inl (cI, 13, .inl K.2.1)), (a2, .inl (cI, 13, .inl K.2.2.1)), (a3, .inl (cI, 13, .inl K.2.2.2.1)), (a4, .inl (cI, 13, .inl K.2.2.2.2))] := hD
    rcases hc15 with ⟨rfl, j15, j15a, j15b, rfl⟩ | ⟨rfl, hno15⟩
    · skip
      refine lv_if_eq (tgt := 28) hx hb dn_C_enter_18 (by decide) (fun h => absurd h (by decide)) (fun _ => ?_)
      refine lv_aload_n hx hb dn_C_enter_21 rfl (lv_at hl 0 rfl) ?_
      refine lv_iload_n hx hb dn_C_enter_22 rfl (lv_at hl 1 rfl) ?_
      refine lv_iload_n hx hb dn_C_enter_23 rfl (lv_at hl 2 rfl) ?_
      refine lv_iload_n hx hb dn_C_enter_24 rfl (lv_at hl 3 rfl) ?_
      refine gc_vv (pre := []) (wc := [(a0, .inr (0, [.ref a1, .ref a2, .ref a3, .ref a4, .int (nI K.1), .int (nI en)])), (a1, .inl (cI, 13, .inl K.2.1)), (a2, .inl (cI, 13, .inl K.2.2.1)), (a3, .inl (cI, 13, .inl K.2.2.2.1)), (a4, .inl (cI, 13, .inl K.2.2.2.2))]) (po := []) (As := [.int 4, .int (nI j15), .int v]) (rest := []) ⟨hx, hb, hml, hown, hw⟩ (c_C_changeObject4 l dC dI cI cZ a0 a1 a2 a3 a4 K en (by omega) j15 (by omega) (by omega) v) (gw_cV 3 hw mw_224 mw_226 mv_10 mw_3 mw_227 hd_C_changeObject ⟨Nat.le_of_ble_eq_true rfl, Nat.le_of_ble_eq_true rfl⟩) (ci := 0) rfl rfl rfl hK hP hD hS hA rfl hl.1 rfl (Nat.le_of_ble_eq_true rfl) dn_C_enter_25 ⟨Nat.zero_le _, Nat.zero_le _⟩ (fun u25 H locs hc25 hP hD hS => ?_)
      have hP : va_P (dC, dI) vwCl [(a0, .inr (0, [.ref a1, .ref a2, .ref a3, .ref a4, .int (nI K.1), .int (nI en)])), (a1, .inl (cI, 13, .inl K.2.1)), (a2, .inl (cI, 13, .inl K.2.2.1)), (a3, .inl (cI, 13, .inl (upd K.2.2.2.1 j15 (K.2.2.2.1 j15 &&& (((1 : Int32) <<< (v &&& 31)) ^^^ (-1)))))), (a4, .inl (cI, 13, .inl K.2.2.2.2))] H := hP
      have hD : va_D A [(a0, .inr (0, [.ref a1, .ref a2, .ref a3, .ref a4, .int (nI K.1), .int (nI en)])), (a1, .inl (cI, 13, .inl K.2.1)), (a2, .inl (cI, 13, .inl K.2.2.1)), (a3, .inl (cI, 13, .inl (upd K.2.2.2.1 j15 (K.2.2.2.1 j15 &&& (((1 : Int32) <<< (v &&& 31)) ^^^ (-1)))))), (a4, .inl (cI, 13, .inl K.2.2.2.2))] := hD
      refine lv_aload_n hx hb dn_C_enter_28 rfl (lv_at hl 0 rfl) ?_
      refine lv_dup hx hb dn_C_enter_29 rfl ?_
      refine va_get (D := (dC, dI)) (ci := 0) (v := .int (nI en)) (C := rn_C) (T := tn_C) (N := 6) hx hb hw ml_C hown hK hP 0 rfl rfl 5 (by decide) (hw _ mw_42) (fun _ h9 => h9) rfl dn_C_enter_30 ?_
      refine lv_iconst (v := 1) hx hb dn_C_enter_33 (by decide) ?_
      refine gr_addN hx hb en 1 rfl rfl dn_C_enter_34 ?_
      refine va_put (D := (dC, dI)) (ci := 0) (v := .int (nI (en + 1))) (ty := .int) (C := rn_C) (T := tn_C) (N := 6) hx hb hw ml_C tt_C to_C nd_C hown hK hP hD hS 0 rfl rfl 5 (by decide) (hw _ mw_42) (fun _ h9 => h9) rfl (by decide +kernel) rfl rfl (Nat.le_of_ble_eq_true rfl) dn_C_enter_35 (fun H locs hP hD hS => ?_)
      have hP : va_P (dC, dI) vwCl [(a0, .inr (0, [.ref a1, .ref a2, .ref a3, .ref a4, .int (nI K.1), .int (nI (en + 1))])), (a1, .inl (cI, 13, .inl K.2.1)), (a2, .inl (cI, 13, .inl K.2.2.1)), (a3, .inl (cI, 13, .inl (upd K.2.2.2.1 j15 (K.2.2.2.1 j15 &&& (((1 : Int32) <<< (v &&& 31)) ^^^ (-1)))))), (a4, .inl (cI, 13, .inl K.2.2.2.2))] H := hP
      have hD : va_D A [(a0, .inr (0, [.ref a1, .ref a2, .ref a3, .ref a4, .int (nI K.1), .int (nI (en + 1))])), (a1, .inl (cI, 13, .inl K.2.1)), (a2, .inl (cI, 13, .inl K.2.2.1)), (a3, .inl (cI, 13, .inl (upd K.2.2.2.1 j15 (K.2.2.2.1 j15 &&& (((1 : Int32) <<< (v &&& 31)) ^^^ (-1)))))), (a4, .inl (cI, 13, .inl K.2.2.2.2))] := hD
      exact hret (K.1, K.2.1, K.2.2.1, upd K.2.2.2.1 j15 (K.2.2.2.1 j15 &&& (((1 : Int32) <<< (v &&& 31)) ^^^ (-1))), K.2.2.2.2) _ _ _ _ (ap_4 en j15a j15b ho hG hr) hP hD hS dn_C_enter_38
    · skip
      exact (ct_ru_no ho (by decide) hr hno15).elim
  · skip
    refine lv_iload_n hx hb dn_C_enter_0 rfl (lv_at hl 1 rfl) ?_
    refine lv_iconst (v := 1) hx hb dn_C_enter_1 (by decide) ?_
    refine lv_icmp_ne (tgt := 13) hx hb dn_C_enter_2 (by decide) (fun _ => ?_) (fun h => absurd h (by decide))
    refine lv_aload_n hx hb dn_C_enter_13 rfl (lv_at hl 0 rfl) ?_
    refine lv_iload_n hx hb dn_C_enter_14 rfl (lv_at hl 2 rfl) ?_
    refine gc_vi (pre := []) (wc := [(a0, .inr (0, [.ref a1, .ref a2, .ref a3, .ref a4, .int (nI K.1), .int (nI en)])), (a1, .inl (cI, 13, .inl K.2.1)), (a2, .inl (cI, 13, .inl K.2.2.1)), (a3, .inl (cI, 13, .inl K.2.2.2.1)), (a4, .inl (cI, 13, .inl K.2.2.2.2))]) (po := []) (As := [.int id]) (rest := []) ⟨hx, hb, hml, hown, hw⟩ (c_C_isThere l dC dI cI cZ a0 a1 a2 a3 a4 K en (by omega) id) (gw_cV 1 hw mw_158 mw_159 mw_160 mw_3 mw_161 hd_C_isThere ⟨Nat.le_of_ble_eq_true rfl, Nat.le_of_ble_eq_true rfl⟩) (ci := 0) rfl rfl rfl hK hP hD hS hA rfl hl.1 rfl (Nat.le_of_ble_eq_true rfl) dn_C_enter_15 ⟨Nat.zero_le _, Nat.zero_le _⟩ (fun r15 u15 H locs hc15 hP hD hS => ?_)
    have hP : va_P (dC, dI) vwCl [(a0, .inr (0, [.ref a1, .ref a2, .ref a3, .ref a4, .int (nI K.1), .int (nI en)])), (a1, .inl (cI, 13, .inl K.2.1)), (a2, .inl (cI, 13, .inl K.2.2.1)), (a3, .inl (cI, 13, .inl K.2.2.2.1)), (a4, .inl (cI, 13, .inl K.2.2.2.2))] H := hP
    have hD : va_D A [(a0, .inr (0, [.ref a1, .ref a2, .ref a3, .ref a4, .int (nI K.1), .int (nI en)])), (a1, .inl (cI, 13, .inl K.2.1)), (a2, .inl (cI, 13, .inl K.2.2.1)), (a3, .inl (cI, 13, .inl K.2.2.2.1)), (a4, .inl (cI, 13, .inl K.2.2.2.2))] := hD
    rcases hc15 with ⟨rfl, j15, j15a, j15b, rfl⟩ | ⟨rfl, hno15⟩
    · skip
      refine lv_if_eq (tgt := 28) hx hb dn_C_enter_18 (by decide) (fun h => absurd h (by decide)) (fun _ => ?_)
      refine lv_aload_n hx hb dn_C_enter_21 rfl (lv_at hl 0 rfl) ?_
      refine lv_iload_n hx hb dn_C_enter_22 rfl (lv_at hl 1 rfl) ?_
      refine lv_iload_n hx hb dn_C_enter_23 rfl (lv_at hl 2 rfl) ?_
      refine lv_iload_n hx hb dn_C_enter_24 rfl (lv_at hl 3 rfl) ?_
      refine gc_vv (pre := []) (wc := [(a0, .inr (0, [.ref a1, .ref a2, .ref a3, .ref a4, .int (nI K.1), .int (nI en)])), (a1, .inl (cI, 13, .inl K.2.1)), (a2, .inl (cI, 13, .inl K.2.2.1)), (a3, .inl (cI, 13, .inl K.2.2.2.1)), (a4, .inl (cI, 13, .inl K.2.2.2.2))]) (po := []) (As := [.int 5, .int (nI j15), .int v]) (rest := []) ⟨hx, hb, hml, hown, hw⟩ (c_C_changeObject5 l dC dI cI cZ a0 a1 a2 a3 a4 K en (by omega) j15 (by omega) (by omega) v) (gw_cV 3 hw mw_224 mw_226 mv_10 mw_3 mw_227 hd_C_changeObject ⟨Nat.le_of_ble_eq_true rfl, Nat.le_of_ble_eq_true rfl⟩) (ci := 0) rfl rfl rfl hK hP hD hS hA rfl hl.1 rfl (Nat.le_of_ble_eq_true rfl) dn_C_enter_25 ⟨Nat.zero_le _, Nat.zero_le _⟩ (fun u25 H locs hc25 hP hD hS => ?_)
      have hP : va_P (dC, dI) vwCl [(a0, .inr (0, [.ref a1, .ref a2, .ref a3, .ref a4, .int (nI K.1), .int (nI en)])), (a1, .inl (cI, 13, .inl (upd K.2.1 j15 2))), (a2, .inl (cI, 13, .inl K.2.2.1)), (a3, .inl (cI, 13, .inl K.2.2.2.1)), (a4, .inl (cI, 13, .inl K.2.2.2.2))] H := hP
      have hD : va_D A [(a0, .inr (0, [.ref a1, .ref a2, .ref a3, .ref a4, .int (nI K.1), .int (nI en)])), (a1, .inl (cI, 13, .inl (upd K.2.1 j15 2))), (a2, .inl (cI, 13, .inl K.2.2.1)), (a3, .inl (cI, 13, .inl K.2.2.2.1)), (a4, .inl (cI, 13, .inl K.2.2.2.2))] := hD
      refine lv_aload_n hx hb dn_C_enter_28 rfl (lv_at hl 0 rfl) ?_
      refine lv_dup hx hb dn_C_enter_29 rfl ?_
      refine va_get (D := (dC, dI)) (ci := 0) (v := .int (nI en)) (C := rn_C) (T := tn_C) (N := 6) hx hb hw ml_C hown hK hP 0 rfl rfl 5 (by decide) (hw _ mw_42) (fun _ h9 => h9) rfl dn_C_enter_30 ?_
      refine lv_iconst (v := 1) hx hb dn_C_enter_33 (by decide) ?_
      refine gr_addN hx hb en 1 rfl rfl dn_C_enter_34 ?_
      refine va_put (D := (dC, dI)) (ci := 0) (v := .int (nI (en + 1))) (ty := .int) (C := rn_C) (T := tn_C) (N := 6) hx hb hw ml_C tt_C to_C nd_C hown hK hP hD hS 0 rfl rfl 5 (by decide) (hw _ mw_42) (fun _ h9 => h9) rfl (by decide +kernel) rfl rfl (Nat.le_of_ble_eq_true rfl) dn_C_enter_35 (fun H locs hP hD hS => ?_)
      have hP : va_P (dC, dI) vwCl [(a0, .inr (0, [.ref a1, .ref a2, .ref a3, .ref a4, .int (nI K.1), .int (nI (en + 1))])), (a1, .inl (cI, 13, .inl (upd K.2.1 j15 2))), (a2, .inl (cI, 13, .inl K.2.2.1)), (a3, .inl (cI, 13, .inl K.2.2.2.1)), (a4, .inl (cI, 13, .inl K.2.2.2.2))] H := hP
      have hD : va_D A [(a0, .inr (0, [.ref a1, .ref a2, .ref a3, .ref a4, .int (nI K.1), .int (nI (en + 1))])), (a1, .inl (cI, 13, .inl (upd K.2.1 j15 2))), (a2, .inl (cI, 13, .inl K.2.2.1)), (a3, .inl (cI, 13, .inl K.2.2.2.1)), (a4, .inl (cI, 13, .inl K.2.2.2.2))] := hD
      exact hret (K.1, upd K.2.1 j15 2, K.2.2.1, K.2.2.2.1, K.2.2.2.2) _ _ _ _ (ap_5 K en (by omega) v) hP hD hS dn_C_enter_38
    · skip
      exact (ct_ru_no ho (by decide) hr hno15).elim
  · skip
    refine lv_iload_n hx hb dn_C_enter_0 rfl (lv_at hl 1 rfl) ?_
    refine lv_iconst (v := 1) hx hb dn_C_enter_1 (by decide) ?_
    refine lv_icmp_ne (tgt := 13) hx hb dn_C_enter_2 (by decide) (fun _ => ?_) (fun h => absurd h (by decide))
    refine lv_aload_n hx hb dn_C_enter_13 rfl (lv_at hl 0 rfl) ?_
    refine lv_iload_n hx hb dn_C_enter_14 rfl (lv_at hl 2 rfl) ?_
    refine gc_vi (pre := []) (wc := [(a0, .inr (0, [.ref a1, .ref a2, .ref a3, .ref a4, .int (nI K.1), .int (nI en)])), (a1, .inl (cI, 13, .inl K.2.1)), (a2, .inl (cI, 13, .inl K.2.2.1)), (a3, .inl (cI, 13, .inl K.2.2.2.1)), (a4, .inl (cI, 13, .inl K.2.2.2.2))]) (po := []) (As := [.int id]) (rest := []) ⟨hx, hb, hml, hown, hw⟩ (c_C_isThere l dC dI cI cZ a0 a1 a2 a3 a4 K en (by omega) id) (gw_cV 1 hw mw_158 mw_159 mw_160 mw_3 mw_161 hd_C_isThere ⟨Nat.le_of_ble_eq_true rfl, Nat.le_of_ble_eq_true rfl⟩) (ci := 0) rfl rfl rfl hK hP hD hS hA rfl hl.1 rfl (Nat.le_of_ble_eq_true rfl) dn_C_enter_15 ⟨Nat.zero_le _, Nat.zero_le _⟩ (fun r15 u15 H locs hc15 hP hD hS => ?_)
    have hP : va_P (dC, dI) vwCl [(a0, .inr (0, [.ref a1, .ref a2, .ref a3, .ref a4, .int (nI K.1), .int (nI en)])), (a1, .inl (cI, 13, .inl K.2.1)), (a2, .inl (cI, 13, .inl K.2.2.1)), (a3, .inl (cI, 13, .inl K.2.2.2.1)), (a4, .inl (cI, 13, .inl K.2.2.2.2))] H := hP
    have hD : va_D A [(a0, .inr (0, [.ref a1, .ref a2, .ref a3, .ref a4, .int (nI K.1), .int (nI en)])), (a1, .inl (cI, 13, .inl K.2.1)), (a2, .inl (cI, 13, .inl K.2.2.1)), (a3, .inl (cI, 13, .inl K.2.2.2.1)), (a4, .inl (cI, 13, .inl K.2.2.2.2))] := hD
    rcases hc15 with ⟨rfl, j15, j15a, j15b, rfl⟩ | ⟨rfl, hno15⟩
    · skip
      refine lv_if_eq (tgt := 28) hx hb dn_C_enter_18 (by decide) (fun h => absurd h (by decide)) (fun _ => ?_)
      refine lv_aload_n hx hb dn_C_enter_21 rfl (lv_at hl 0 rfl) ?_
      refine lv_iload_n hx hb dn_C_enter_22 rfl (lv_at hl 1 rfl) ?_
      refine lv_iload_n hx hb dn_C_enter_23 rfl (lv_at hl 2 rfl) ?_
      refine lv_iload_n hx hb dn_C_enter_24 rfl (lv_at hl 3 rfl) ?_
      refine gc_vv (pre := []) (wc := [(a0, .inr (0, [.ref a1, .ref a2, .ref a3, .ref a4, .int (nI K.1), .int (nI en)])), (a1, .inl (cI, 13, .inl K.2.1)), (a2, .inl (cI, 13, .inl K.2.2.1)), (a3, .inl (cI, 13, .inl K.2.2.2.1)), (a4, .inl (cI, 13, .inl K.2.2.2.2))]) (po := []) (As := [.int 6, .int (nI j15), .int v]) (rest := []) ⟨hx, hb, hml, hown, hw⟩ (c_C_changeObject6 l dC dI cI cZ a0 a1 a2 a3 a4 K en (by omega) j15 (by omega) (by omega) v) (gw_cV 3 hw mw_224 mw_226 mv_10 mw_3 mw_227 hd_C_changeObject ⟨Nat.le_of_ble_eq_true rfl, Nat.le_of_ble_eq_true rfl⟩) (ci := 0) rfl rfl rfl hK hP hD hS hA rfl hl.1 rfl (Nat.le_of_ble_eq_true rfl) dn_C_enter_25 ⟨Nat.zero_le _, Nat.zero_le _⟩ (fun u25 H locs hc25 hP hD hS => ?_)
      have hP : va_P (dC, dI) vwCl [(a0, .inr (0, [.ref a1, .ref a2, .ref a3, .ref a4, .int (nI K.1), .int (nI en)])), (a1, .inl (cI, 13, .inl (upd K.2.1 j15 3))), (a2, .inl (cI, 13, .inl K.2.2.1)), (a3, .inl (cI, 13, .inl K.2.2.2.1)), (a4, .inl (cI, 13, .inl K.2.2.2.2))] H := hP
      have hD : va_D A [(a0, .inr (0, [.ref a1, .ref a2, .ref a3, .ref a4, .int (nI K.1), .int (nI en)])), (a1, .inl (cI, 13, .inl (upd K.2.1 j15 3))), (a2, .inl (cI, 13, .inl K.2.2.1)), (a3, .inl (cI, 13, .inl K.2.2.2.1)), (a4, .inl (cI, 13, .inl K.2.2.2.2))] := hD
      refine lv_aload_n hx hb dn_C_enter_28 rfl (lv_at hl 0 rfl) ?_
      refine lv_dup hx hb dn_C_enter_29 rfl ?_
      refine va_get (D := (dC, dI)) (ci := 0) (v := .int (nI en)) (C := rn_C) (T := tn_C) (N := 6) hx hb hw ml_C hown hK hP 0 rfl rfl 5 (by decide) (hw _ mw_42) (fun _ h9 => h9) rfl dn_C_enter_30 ?_
      refine lv_iconst (v := 1) hx hb dn_C_enter_33 (by decide) ?_
      refine gr_addN hx hb en 1 rfl rfl dn_C_enter_34 ?_
      refine va_put (D := (dC, dI)) (ci := 0) (v := .int (nI (en + 1))) (ty := .int) (C := rn_C) (T := tn_C) (N := 6) hx hb hw ml_C tt_C to_C nd_C hown hK hP hD hS 0 rfl rfl 5 (by decide) (hw _ mw_42) (fun _ h9 => h9) rfl (by decide +kernel) rfl rfl (Nat.le_of_ble_eq_true rfl) dn_C_enter_35 (fun H locs hP hD hS => ?_)
      have hP : va_P (dC, dI) vwCl [(a0, .inr (0, [.ref a1, .ref a2, .ref a3, .ref a4, .int (nI K.1), .int (nI (en + 1))])), (a1, .inl (cI, 13, .inl (upd K.2.1 j15 3))), (a2, .inl (cI, 13, .inl K.2.2.1)), (a3, .inl (cI, 13, .inl K.2.2.2.1)), (a4, .inl (cI, 13, .inl K.2.2.2.2))] H := hP
      have hD : va_D A [(a0, .inr (0, [.ref a1, .ref a2, .ref a3, .ref a4, .int (nI K.1), .int (nI (en + 1))])), (a1, .inl (cI, 13, .inl (upd K.2.1 j15 3))), (a2, .inl (cI, 13, .inl K.2.2.1)), (a3, .inl (cI, 13, .inl K.2.2.2.1)), (a4, .inl (cI, 13, .inl K.2.2.2.2))] := hD
      exact hret (K.1, upd K.2.1 j15 3, K.2.2.1, K.2.2.2.1, K.2.2.2.2) _ _ _ _ (ap_6 K en (by omega) v) hP hD hS dn_C_enter_38
    · skip
      exact (ct_ru_no ho (by decide) hr hno15).elim

set_option maxRecDepth 100000 in
set_option maxHeartbeats 4000000 in
theorem c_C_isTimely (l : Launch) (dC : Nat → ClassId) (dI : Nat → Nat → Nat) (cI cZ : ClassId) (a0 a1 a2 : Nat) (f g : Nat → Int32) (r : Nat) (hr : r < 40) (k : Int32) : gc_I l yn_C_isTimely (gw yn_C_isTimely cn_C_isTimely 5 (some .boolean)) (rm_ 3 63) (dC, dI) vwCl (gT cI cZ) [.ref a0, .int (nI r), .int k] [(a0, .inr (3, [.ref a1, .ref a2])), (a1, .inl (cI, 292, .inl f)), (a2, .inl (cI, 40, .inl g))] (fun x (_ : Unit) => (x = 1 ∧ (ct_bf f r ≤ f (7 * r + 5) ∧ f (7 * r + 5) ≤ k)) ∨ (x = 0 ∧ ¬ (ct_bf f r ≤ f (7 * r + 5) ∧ f (7 * r + 5) ≤ k))) (fun _ => [(a0, .inr (3, [.ref a1, .ref a2])), (a1, .inl (cI, 292, .inl f)), (a2, .inl (cI, 40, .inl g))]) := by
  refine gc_I_of (cc := cn_C_isTimely) (maxL := 5) (ty := .boolean) (by decide) rfl (Nat.le_of_ble_eq_true rfl) ?_
  intro pp ee ss mm ar be me cd A Q ls H0 H locs hx hb hml hown hts hK hP hD hS hA hl hret
  have hw : ∀ w ∈ gw_T, w.before ar ss = true := fun w h => hts w (List.mem_cons_of_mem _ h)
  have hl : lv_has ls 5 [(0, .ref a0), (1, .int (nI r)), (2, .int k)] := hl
  refine lv_aload_n hx hb dn_C_isTimely_0 rfl (lv_at hl 0 rfl) ?_
  refine lv_iload_n hx hb dn_C_isTimely_1 rfl (lv_at hl 1 rfl) ?_
  refine lv_iconst (v := 5) hx hb dn_C_isTimely_2 (by decide) ?_
  refine gc_vi (pre := []) (wc := [(a0, .inr (3, [.ref a1, .ref a2])), (a1, .inl (cI, 292, .inl f)), (a2, .inl (cI, 40, .inl g))]) (po := []) (As := [.int (nI r), .int 5]) (rest := []) ⟨hx, hb, hml, hown, hw⟩ (c_G_field l dC dI cI cZ a0 a1 a2 f g r 5 (by omega)) (gw_cV 2 hw mw_438 mw_266 mw_267 mw_2 mw_268 hd_G_field ⟨Nat.le_of_ble_eq_true rfl, Nat.le_of_ble_eq_true rfl⟩) (ci := 3) rfl rfl rfl hK hP hD hS hA rfl hl.1 rfl (Nat.le_of_ble_eq_true rfl) dn_C_isTimely_3 ⟨Nat.zero_le _, Nat.zero_le _⟩ (fun r3 u3 H locs hc3 hP hD hS => ?_)
  subst hc3
  have hP : va_P (dC, dI) vwCl [(a0, .inr (3, [.ref a1, .ref a2])), (a1, .inl (cI, 292, .inl f)), (a2, .inl (cI, 40, .inl g))] H := hP
  have hD : va_D A [(a0, .inr (3, [.ref a1, .ref a2])), (a1, .inl (cI, 292, .inl f)), (a2, .inl (cI, 40, .inl g))] := hD
  refine lv_istore_n (lv' := [(3, .int (f (7 * r + 5))), (0, .ref a0), (1, .int (nI r)), (2, .int k)]) hx hb dn_C_isTimely_6 rfl hl (by decide) rfl (fun ls hl => ?_)
  refine lv_iload_n hx hb dn_C_isTimely_7 rfl (lv_at hl 2 rfl) ?_
  refine gr_zne (tgt := 15) hx hb r rfl (by omega) dn_C_isTimely_8 (by decide) (fun h8 => ?_) (fun h8 => ?_)
  · skip
    refine lv_aload_n hx hb dn_C_isTimely_15 rfl (lv_at hl 1 rfl) ?_
    refine lv_iload_n hx hb dn_C_isTimely_16 rfl (lv_at hl 2 rfl) ?_
    refine lv_iconst (v := 1) hx hb dn_C_isTimely_17 (by decide) ?_
    refine gr_subN hx hb r 1 rfl rfl (by omega) dn_C_isTimely_18 ?_
    refine lv_iconst (v := 5) hx hb dn_C_isTimely_19 (by decide) ?_
    refine gc_vi (pre := []) (wc := [(a0, .inr (3, [.ref a1, .ref a2])), (a1, .inl (cI, 292, .inl f)), (a2, .inl (cI, 40, .inl g))]) (po := []) (As := [.int (nI (r - 1)), .int 5]) (rest := []) ⟨hx, hb, hml, hown, hw⟩ (c_G_field l dC dI cI cZ a0 a1 a2 f g (r - 1) 5 (by omega)) (gw_cV 2 hw mw_438 mw_266 mw_267 mw_2 mw_268 hd_G_field ⟨Nat.le_of_ble_eq_true rfl, Nat.le_of_ble_eq_true rfl⟩) (ci := 3) rfl rfl rfl hK hP hD hS hA rfl hl.1 rfl (Nat.le_of_ble_eq_true rfl) dn_C_isTimely_20 ⟨Nat.zero_le _, Nat.zero_le _⟩ (fun r20 u20 H locs hc20 hP hD hS => ?_)
    subst hc20
    have hP : va_P (dC, dI) vwCl [(a0, .inr (3, [.ref a1, .ref a2])), (a1, .inl (cI, 292, .inl f)), (a2, .inl (cI, 40, .inl g))] H := hP
    have hD : va_D A [(a0, .inr (3, [.ref a1, .ref a2])), (a1, .inl (cI, 292, .inl f)), (a2, .inl (cI, 40, .inl g))] := hD
    refine gr_top (y := ct_bf f r) (by unfold ct_bf; first | rw [if_pos h8] | rw [if_neg h8]) ?_
    refine lv_istore (lv' := [(4, .int (ct_bf f r)), (3, .int (f (7 * r + 5))), (0, .ref a0), (1, .int (nI r)), (2, .int k)]) hx hb dn_C_isTimely_23 hl (by decide) rfl (fun ls hl => ?_)
    refine lv_iload hx hb dn_C_isTimely_25 (lv_at hl 0 rfl) ?_
    refine lv_iload_n hx hb dn_C_isTimely_27 rfl (lv_at hl 1 rfl) ?_
    refine lv_icmp_gt (tgt := 40) hx hb dn_C_isTimely_28 (by decide) (fun h28 => ?_) (fun h28 => ?_)
    · skip
      refine lv_iconst (v := 0) hx hb dn_C_isTimely_40 (by decide) ?_
      exact hret 0 () _ _ _ _ (Or.inr ⟨rfl, fun q => by first | exact absurd q.1 (Int32.not_le.mpr h28) | exact absurd q.2 (Int32.not_le.mpr h33)⟩) rfl hP hD hS dn_C_isTimely_41
    · skip
      refine lv_iload_n hx hb dn_C_isTimely_31 rfl (lv_at hl 1 rfl) ?_
      refine lv_iload_n hx hb dn_C_isTimely_32 rfl (lv_at hl 4 rfl) ?_
      refine lv_icmp_gt (tgt := 40) hx hb dn_C_isTimely_33 (by decide) (fun h33 => ?_) (fun h33 => ?_)
      · skip
        refine lv_iconst (v := 0) hx hb dn_C_isTimely_40 (by decide) ?_
        exact hret 0 () _ _ _ _ (Or.inr ⟨rfl, fun q => by first | exact absurd q.1 (Int32.not_le.mpr h28) | exact absurd q.2 (Int32.not_le.mpr h33)⟩) rfl hP hD hS dn_C_isTimely_41
      · skip
        refine lv_iconst (v := 1) hx hb dn_C_isTimely_36 (by decide) ?_
        refine lv_goto (tgt := 41) hx hb dn_C_isTimely_37 (by decide) ?_
        exact hret 1 () _ _ _ _ (Or.inl ⟨rfl, Int32.not_lt.mp h28, Int32.not_lt.mp h33⟩) rfl hP hD hS dn_C_isTimely_41
  · skip
    refine lv_iconst (v := 0) hx hb dn_C_isTimely_11 (by decide) ?_
    refine lv_goto (tgt := 23) hx hb dn_C_isTimely_12 (by decide) ?_
    refine gr_top (y := ct_bf f r) (by unfold ct_bf; first | rw [if_pos h8] | rw [if_neg h8]) ?_
    refine lv_istore (lv' := [(4, .int (ct_bf f r)), (3, .int (f (7 * r + 5))), (0, .ref a0), (1, .int (nI r)), (2, .int k)]) hx hb dn_C_isTimely_23 hl (by decide) rfl (fun ls hl => ?_)
    refine lv_iload hx hb dn_C_isTimely_25 (lv_at hl 0 rfl) ?_
    refine lv_iload_n hx hb dn_C_isTimely_27 rfl (lv_at hl 1 rfl) ?_
    refine lv_icmp_gt (tgt := 40) hx hb dn_C_isTimely_28 (by decide) (fun h28 => ?_) (fun h28 => ?_)
    · skip
      refine lv_iconst (v := 0) hx hb dn_C_isTimely_40 (by decide) ?_
      exact hret 0 () _ _ _ _ (Or.inr ⟨rfl, fun q => by first | exact absurd q.1 (Int32.not_le.mpr h28) | exact absurd q.2 (Int32.not_le.mpr h33)⟩) rfl hP hD hS dn_C_isTimely_41
    · skip
      refine lv_iload_n hx hb dn_C_isTimely_31 rfl (lv_at hl 1 rfl) ?_
      refine lv_iload_n hx hb dn_C_isTimely_32 rfl (lv_at hl 4 rfl) ?_
      refine lv_icmp_gt (tgt := 40) hx hb dn_C_isTimely_33 (by decide) (fun h33 => ?_) (fun h33 => ?_)
      · skip
        refine lv_iconst (v := 0) hx hb dn_C_isTimely_40 (by decide) ?_
        exact hret 0 () _ _ _ _ (Or.inr ⟨rfl, fun q => by first | exact absurd q.1 (Int32.not_le.mpr h28) | exact absurd q.2 (Int32.not_le.mpr h33)⟩) rfl hP hD hS dn_C_isTimely_41
      · skip
        refine lv_iconst (v := 1) hx hb dn_C_isTimely_36 (by decide) ?_
        refine lv_goto (tgt := 41) hx hb dn_C_isTimely_37 (by decide) ?_
        exact hret 1 () _ _ _ _ (Or.inl ⟨rfl, Int32.not_lt.mp h28, Int32.not_lt.mp h33⟩) rfl hP hD hS dn_C_isTimely_41

set_option maxRecDepth 100000 in
set_option maxHeartbeats 4000000 in
theorem c_C_isWellFormed (l : Launch) (dC : Nat → ClassId) (dI : Nat → Nat → Nat) (cI cZ : ClassId) (a0 a1 a2 a3 a4 : Nat) (K : ct_T) (en : Nat) (ho : K.1 ≤ 12) (b0 b1 b2 : Nat) (f g : Nat → Int32) (r : Nat) (hr : r < 40) : gc_I l yn_C_isWellFormed (gw yn_C_isWellFormed cn_C_isWellFormed 5 (some .boolean)) (rm_ 3 63) (dC, dI) vwCl (gT cI cZ) [.ref a0, .ref b0, .int (nI r)] [(a0, .inr (0, [.ref a1, .ref a2, .ref a3, .ref a4, .int (nI K.1), .int (nI en)])), (a1, .inl (cI, 13, .inl K.2.1)), (a2, .inl (cI, 13, .inl K.2.2.1)), (a3, .inl (cI, 13, .inl K.2.2.2.1)), (a4, .inl (cI, 13, .inl K.2.2.2.2)), (b0, .inr (3, [.ref b1, .ref b2])), (b1, .inl (cI, 292, .inl f)), (b2, .inl (cI, 40, .inl g))] (fun x (_ : Unit) => (x = 1 ∧ ct_wf f r K.1) ∨ (x = 0 ∧ ¬ ct_wf f r K.1)) (fun _ => [(a0, .inr (0, [.ref a1, .ref a2, .ref a3, .ref a4, .int (nI K.1), .int (nI en)])), (a1, .inl (cI, 13, .inl K.2.1)), (a2, .inl (cI, 13, .inl K.2.2.1)), (a3, .inl (cI, 13, .inl K.2.2.2.1)), (a4, .inl (cI, 13, .inl K.2.2.2.2)), (b0, .inr (3, [.ref b1, .ref b2])), (b1, .inl (cI, 292, .inl f)), (b2, .inl (cI, 40, .inl g))]) := by
  refine gc_I_of (cc := cn_C_isWellFormed) (maxL := 5) (ty := .boolean) (by decide) rfl (Nat.le_of_ble_eq_true rfl) ?_
  intro pp ee ss mm ar be me cd A Q ls H0 H locs hx hb hml hown hts hK hP hD hS hA hl hret
  have hw : ∀ w ∈ gw_T, w.before ar ss = true := fun w h => hts w (List.mem_cons_of_mem _ h)
  have hl : lv_has ls 5 [(0, .ref a0), (1, .ref b0), (2, .int (nI r))] := hl
  refine lv_aload_n hx hb dn_C_isWellFormed_0 rfl (lv_at hl 1 rfl) ?_
  refine lv_iload_n hx hb dn_C_isWellFormed_1 rfl (lv_at hl 2 rfl) ?_
  refine lv_iconst (v := 0) hx hb dn_C_isWellFormed_2 (by decide) ?_
  refine gc_vi (pre := [(a0, .inr (0, [.ref a1, .ref a2, .ref a3, .ref a4, .int (nI K.1), .int (nI en)])), (a1, .inl (cI, 13, .inl K.2.1)), (a2, .inl (cI, 13, .inl K.2.2.1)), (a3, .inl (cI, 13, .inl K.2.2.2.1)), (a4, .inl (cI, 13, .inl K.2.2.2.2))]) (wc := [(b0, .inr (3, [.ref b1, .ref b2])), (b1, .inl (cI, 292, .inl f)), (b2, .inl (cI, 40, .inl g))]) (po := []) (As := [.int (nI r), .int 0]) (rest := []) ⟨hx, hb, hml, hown, hw⟩ (c_G_field0 l dC dI cI cZ b0 b1 b2 f g r (by omega)) (gw_cV 2 hw mw_438 mw_266 mw_267 mw_2 mw_268 hd_G_field ⟨Nat.le_of_ble_eq_true rfl, Nat.le_of_ble_eq_true rfl⟩) (ci := 3) rfl rfl rfl hK hP hD hS hA rfl hl.1 rfl (Nat.le_of_ble_eq_true rfl) dn_C_isWellFormed_3 ⟨Nat.zero_le _, Nat.zero_le _⟩ (fun r3 u3 H locs hc3 hP hD hS => ?_)
  subst hc3
  have hP : va_P (dC, dI) vwCl [(a0, .inr (0, [.ref a1, .ref a2, .ref a3, .ref a4, .int (nI K.1), .int (nI en)])), (a1, .inl (cI, 13, .inl K.2.1)), (a2, .inl (cI, 13, .inl K.2.2.1)), (a3, .inl (cI, 13, .inl K.2.2.2.1)), (a4, .inl (cI, 13, .inl K.2.2.2.2)), (b0, .inr (3, [.ref b1, .ref b2])), (b1, .inl (cI, 292, .inl f)), (b2, .inl (cI, 40, .inl g))] H := hP
  have hD : va_D A [(a0, .inr (0, [.ref a1, .ref a2, .ref a3, .ref a4, .int (nI K.1), .int (nI en)])), (a1, .inl (cI, 13, .inl K.2.1)), (a2, .inl (cI, 13, .inl K.2.2.1)), (a3, .inl (cI, 13, .inl K.2.2.2.1)), (a4, .inl (cI, 13, .inl K.2.2.2.2)), (b0, .inr (3, [.ref b1, .ref b2])), (b1, .inl (cI, 292, .inl f)), (b2, .inl (cI, 40, .inl g))] := hD
  refine lv_istore_n (lv' := [(3, .int (f (7 * r))), (0, .ref a0), (1, .ref b0), (2, .int (nI r))]) hx hb dn_C_isWellFormed_6 rfl hl (by decide) rfl (fun ls hl => ?_)
  refine lv_iload_n hx hb dn_C_isWellFormed_7 rfl (lv_at hl 0 rfl) ?_
  refine lv_iconst (v := 1) hx hb dn_C_isWellFormed_8 (by decide) ?_
  refine lv_icmp_ne (tgt := 31) hx hb dn_C_isWellFormed_9 (by decide) (fun h9 => ?_) (fun h9 => ?_)
  · skip
    refine lv_aload_n hx hb dn_C_isWellFormed_31 rfl (lv_at hl 2 rfl) ?_
    refine lv_iload_n hx hb dn_C_isWellFormed_32 rfl (lv_at hl 3 rfl) ?_
    refine lv_iconst (v := 3) hx hb dn_C_isWellFormed_33 (by decide) ?_
    refine gc_vi (pre := [(a0, .inr (0, [.ref a1, .ref a2, .ref a3, .ref a4, .int (nI K.1), .int (nI en)])), (a1, .inl (cI, 13, .inl K.2.1)), (a2, .inl (cI, 13, .inl K.2.2.1)), (a3, .inl (cI, 13, .inl K.2.2.2.1)), (a4, .inl (cI, 13, .inl K.2.2.2.2))]) (wc := [(b0, .inr (3, [.ref b1, .ref b2])), (b1, .inl (cI, 292, .inl f)), (b2, .inl (cI, 40, .inl g))]) (po := []) (As := [.int (nI r), .int 3]) (rest := []) ⟨hx, hb, hml, hown, hw⟩ (c_G_field l dC dI cI cZ b0 b1 b2 f g r 3 (by omega)) (gw_cV 2 hw mw_438 mw_266 mw_267 mw_2 mw_268 hd_G_field ⟨Nat.le_of_ble_eq_true rfl, Nat.le_of_ble_eq_true rfl⟩) (ci := 3) rfl rfl rfl hK hP hD hS hA rfl hl.1 rfl (Nat.le_of_ble_eq_true rfl) dn_C_isWellFormed_34 ⟨Nat.zero_le _, Nat.zero_le _⟩ (fun r34 u34 H locs hc34 hP hD hS => ?_)
    subst hc34
    have hP : va_P (dC, dI) vwCl [(a0, .inr (0, [.ref a1, .ref a2, .ref a3, .ref a4, .int (nI K.1), .int (nI en)])), (a1, .inl (cI, 13, .inl K.2.1)), (a2, .inl (cI, 13, .inl K.2.2.1)), (a3, .inl (cI, 13, .inl K.2.2.2.1)), (a4, .inl (cI, 13, .inl K.2.2.2.2)), (b0, .inr (3, [.ref b1, .ref b2])), (b1, .inl (cI, 292, .inl f)), (b2, .inl (cI, 40, .inl g))] H := hP
    have hD : va_D A [(a0, .inr (0, [.ref a1, .ref a2, .ref a3, .ref a4, .int (nI K.1), .int (nI en)])), (a1, .inl (cI, 13, .inl K.2.1)), (a2, .inl (cI, 13, .inl K.2.2.1)), (a3, .inl (cI, 13, .inl K.2.2.2.1)), (a4, .inl (cI, 13, .inl K.2.2.2.2)), (b0, .inr (3, [.ref b1, .ref b2])), (b1, .inl (cI, 292, .inl f)), (b2, .inl (cI, 40, .inl g))] := hD
    refine lv_if_ne (tgt := 49) hx hb dn_C_isWellFormed_37 (by decide) (fun h37 => ?_) (fun h37 => ?_)
    · skip
      refine lv_iconst (v := 0) hx hb dn_C_isWellFormed_49 (by decide) ?_
      exact hret 0 () _ _ _ _ (Or.inr ⟨rfl, by unfold ct_wf; simp [h9, h37]⟩) rfl hP hD hS dn_C_isWellFormed_50
    · skip
      refine lv_aload_n hx hb dn_C_isWellFormed_40 rfl (lv_at hl 2 rfl) ?_
      refine lv_iload_n hx hb dn_C_isWellFormed_41 rfl (lv_at hl 3 rfl) ?_
      refine lv_iconst (v := 4) hx hb dn_C_isWellFormed_42 (by decide) ?_
      refine gc_vi (pre := [(a0, .inr (0, [.ref a1, .ref a2, .ref a3, .ref a4, .int (nI K.1), .int (nI en)])), (a1, .inl (cI, 13, .inl K.2.1)), (a2, .inl (cI, 13, .inl K.2.2.1)), (a3, .inl (cI, 13, .inl K.2.2.2.1)), (a4, .inl (cI, 13, .inl K.2.2.2.2))]) (wc := [(b0, .inr (3, [.ref b1, .ref b2])), (b1, .inl (cI, 292, .inl f)), (b2, .inl (cI, 40, .inl g))]) (po := []) (As := [.int (nI r), .int 4]) (rest := []) ⟨hx, hb, hml, hown, hw⟩ (c_G_field l dC dI cI cZ b0 b1 b2 f g r 4 (by omega)) (gw_cV 2 hw mw_438 mw_266 mw_267 mw_2 mw_268 hd_G_field ⟨Nat.le_of_ble_eq_true rfl, Nat.le_of_ble_eq_true rfl⟩) (ci := 3) rfl rfl rfl hK hP hD hS hA rfl hl.1 rfl (Nat.le_of_ble_eq_true rfl) dn_C_isWellFormed_43 ⟨Nat.zero_le _, Nat.zero_le _⟩ (fun r43 u43 H locs hc43 hP hD hS => ?_)
      subst hc43
      have hP : va_P (dC, dI) vwCl [(a0, .inr (0, [.ref a1, .ref a2, .ref a3, .ref a4, .int (nI K.1), .int (nI en)])), (a1, .inl (cI, 13, .inl K.2.1)), (a2, .inl (cI, 13, .inl K.2.2.1)), (a3, .inl (cI, 13, .inl K.2.2.2.1)), (a4, .inl (cI, 13, .inl K.2.2.2.2)), (b0, .inr (3, [.ref b1, .ref b2])), (b1, .inl (cI, 292, .inl f)), (b2, .inl (cI, 40, .inl g))] H := hP
      have hD : va_D A [(a0, .inr (0, [.ref a1, .ref a2, .ref a3, .ref a4, .int (nI K.1), .int (nI en)])), (a1, .inl (cI, 13, .inl K.2.1)), (a2, .inl (cI, 13, .inl K.2.2.1)), (a3, .inl (cI, 13, .inl K.2.2.2.1)), (a4, .inl (cI, 13, .inl K.2.2.2.2)), (b0, .inr (3, [.ref b1, .ref b2])), (b1, .inl (cI, 292, .inl f)), (b2, .inl (cI, 40, .inl g))] := hD
      refine lv_if_eq (tgt := 51) hx hb dn_C_isWellFormed_46 (by decide) (fun h46 => ?_) (fun h46 => ?_)
      · skip
        refine lv_iload_n hx hb dn_C_isWellFormed_51 rfl (lv_at hl 0 rfl) ?_
        refine lv_iconst (v := 5) hx hb dn_C_isWellFormed_52 (by decide) ?_
        refine lv_icmp_eq (tgt := 62) hx hb dn_C_isWellFormed_53 (by decide) (fun h53 => ?_) (fun h53 => ?_)
        · skip
          refine lv_iconst (v := 1) hx hb dn_C_isWellFormed_62 (by decide) ?_
          refine lv_goto (tgt := 67) hx hb dn_C_isWellFormed_63 (by decide) ?_
          refine lv_istore (lv' := [(4, .int 1), (3, .int (f (7 * r))), (0, .ref a0), (1, .ref b0), (2, .int (nI r))]) hx hb dn_C_isWellFormed_67 hl (by decide) rfl (fun ls hl => ?_)
          refine lv_iload hx hb dn_C_isWellFormed_69 (lv_at hl 0 rfl) ?_
          refine lv_if_eq (tgt := 83) hx hb dn_C_isWellFormed_71 (by decide) (fun h => absurd h (by decide)) (fun _ => ?_)
          refine lv_aload_n hx hb dn_C_isWellFormed_74 rfl (lv_at hl 3 rfl) ?_
          refine lv_iload_n hx hb dn_C_isWellFormed_75 rfl (lv_at hl 4 rfl) ?_
          refine lv_iconst (v := 2) hx hb dn_C_isWellFormed_76 (by decide) ?_
          refine gc_vi (pre := [(a0, .inr (0, [.ref a1, .ref a2, .ref a3, .ref a4, .int (nI K.1), .int (nI en)])), (a1, .inl (cI, 13, .inl K.2.1)), (a2, .inl (cI, 13, .inl K.2.2.1)), (a3, .inl (cI, 13, .inl K.2.2.2.1)), (a4, .inl (cI, 13, .inl K.2.2.2.2))]) (wc := [(b0, .inr (3, [.ref b1, .ref b2])), (b1, .inl (cI, 292, .inl f)), (b2, .inl (cI, 40, .inl g))]) (po := []) (As := [.int (nI r), .int 2]) (rest := []) ⟨hx, hb, hml, hown, hw⟩ (c_G_field l dC dI cI cZ b0 b1 b2 f g r 2 (by omega)) (gw_cV 2 hw mw_438 mw_266 mw_267 mw_2 mw_268 hd_G_field ⟨Nat.le_of_ble_eq_true rfl, Nat.le_of_ble_eq_true rfl⟩) (ci := 3) rfl rfl rfl hK hP hD hS hA rfl hl.1 rfl (Nat.le_of_ble_eq_true rfl) dn_C_isWellFormed_77 ⟨Nat.zero_le _, Nat.zero_le _⟩ (fun r77 u77 H locs hc77 hP hD hS => ?_)
          subst hc77
          have hP : va_P (dC, dI) vwCl [(a0, .inr (0, [.ref a1, .ref a2, .ref a3, .ref a4, .int (nI K.1), .int (nI en)])), (a1, .inl (cI, 13, .inl K.2.1)), (a2, .inl (cI, 13, .inl K.2.2.1)), (a3, .inl (cI, 13, .inl K.2.2.2.1)), (a4, .inl (cI, 13, .inl K.2.2.2.2)), (b0, .inr (3, [.ref b1, .ref b2])), (b1, .inl (cI, 292, .inl f)), (b2, .inl (cI, 40, .inl g))] H := hP
          have hD : va_D A [(a0, .inr (0, [.ref a1, .ref a2, .ref a3, .ref a4, .int (nI K.1), .int (nI en)])), (a1, .inl (cI, 13, .inl K.2.1)), (a2, .inl (cI, 13, .inl K.2.2.1)), (a3, .inl (cI, 13, .inl K.2.2.2.1)), (a4, .inl (cI, 13, .inl K.2.2.2.2)), (b0, .inr (3, [.ref b1, .ref b2])), (b1, .inl (cI, 292, .inl f)), (b2, .inl (cI, 40, .inl g))] := hD
          refine lv_if_ne (tgt := 87) hx hb dn_C_isWellFormed_80 (by decide) (fun h80 => ?_) (fun h80 => ?_)
          · skip
            refine lv_iconst (v := 0) hx hb dn_C_isWellFormed_87 (by decide) ?_
            exact hret 0 () _ _ _ _ (Or.inr ⟨rfl, by unfold ct_wf; simp [h9, h37, h46, h53, h80]⟩) rfl hP hD hS dn_C_isWellFormed_88
          · skip
            refine lv_iconst (v := 1) hx hb dn_C_isWellFormed_83 (by decide) ?_
            refine lv_goto (tgt := 88) hx hb dn_C_isWellFormed_84 (by decide) ?_
            exact hret 1 () _ _ _ _ (Or.inl ⟨rfl, by unfold ct_wf; refine ⟨?_, ?_, ?_⟩ <;> simp [h9, h37, h46, h53, h80]⟩) rfl hP hD hS dn_C_isWellFormed_88
        · skip
          refine lv_iload_n hx hb dn_C_isWellFormed_56 rfl (lv_at hl 0 rfl) ?_
          refine lv_bipush (v := 6) hx hb dn_C_isWellFormed_57 (by decide) ?_
          refine lv_icmp_ne (tgt := 66) hx hb dn_C_isWellFormed_59 (by decide) (fun h59 => ?_) (fun h59 => ?_)
          · skip
            refine lv_iconst (v := 0) hx hb dn_C_isWellFormed_66 (by decide) ?_
            refine lv_istore (lv' := [(4, .int 0), (3, .int (f (7 * r))), (0, .ref a0), (1, .ref b0), (2, .int (nI r))]) hx hb dn_C_isWellFormed_67 hl (by decide) rfl (fun ls hl => ?_)
            refine lv_iload hx hb dn_C_isWellFormed_69 (lv_at hl 0 rfl) ?_
            refine lv_if_eq (tgt := 83) hx hb dn_C_isWellFormed_71 (by decide) (fun _ => ?_) (fun h => absurd h (by decide))
            refine lv_iconst (v := 1) hx hb dn_C_isWellFormed_83 (by decide) ?_
            refine lv_goto (tgt := 88) hx hb dn_C_isWellFormed_84 (by decide) ?_
            exact hret 1 () _ _ _ _ (Or.inl ⟨rfl, by unfold ct_wf; refine ⟨?_, ?_, ?_⟩ <;> simp [h9, h37, h46, h53, h59]⟩) rfl hP hD hS dn_C_isWellFormed_88
          · skip
            refine lv_iconst (v := 1) hx hb dn_C_isWellFormed_62 (by decide) ?_
            refine lv_goto (tgt := 67) hx hb dn_C_isWellFormed_63 (by decide) ?_
            refine lv_istore (lv' := [(4, .int 1), (3, .int (f (7 * r))), (0, .ref a0), (1, .ref b0), (2, .int (nI r))]) hx hb dn_C_isWellFormed_67 hl (by decide) rfl (fun ls hl => ?_)
            refine lv_iload hx hb dn_C_isWellFormed_69 (lv_at hl 0 rfl) ?_
            refine lv_if_eq (tgt := 83) hx hb dn_C_isWellFormed_71 (by decide) (fun h => absurd h (by decide)) (fun _ => ?_)
            refine lv_aload_n hx hb dn_C_isWellFormed_74 rfl (lv_at hl 3 rfl) ?_
            refine lv_iload_n hx hb dn_C_isWellFormed_75 rfl (lv_at hl 4 rfl) ?_
            refine lv_iconst (v := 2) hx hb dn_C_isWellFormed_76 (by decide) ?_
            refine gc_vi (pre := [(a0, .inr (0, [.ref a1, .ref a2, .ref a3, .ref a4, .int (nI K.1), .int (nI en)])), (a1, .inl (cI, 13, .inl K.2.1)), (a2, .inl (cI, 13, .inl K.2.2.1)), (a3, .inl (cI, 13, .inl K.2.2.2.1)), (a4, .inl (cI, 13, .inl K.2.2.2.2))]) (wc := [(b0, .inr (3, [.ref b1, .ref b2])), (b1, .inl (cI, 292, .inl f)), (b2, .inl (cI, 40, .inl g))]) (po := []) (As := [.int (nI r), .int 2]) (rest := []) ⟨hx, hb, hml, hown, hw⟩ (c_G_field l dC dI cI cZ b0 b1 b2 f g r 2 (by omega)) (gw_cV 2 hw mw_438 mw_266 mw_267 mw_2 mw_268 hd_G_field ⟨Nat.le_of_ble_eq_true rfl, Nat.le_of_ble_eq_true rfl⟩) (ci := 3) rfl rfl rfl hK hP hD hS hA rfl hl.1 rfl (Nat.le_of_ble_eq_true rfl) dn_C_isWellFormed_77 ⟨Nat.zero_le _, Nat.zero_le _⟩ (fun r77 u77 H locs hc77 hP hD hS => ?_)
            subst hc77
            have hP : va_P (dC, dI) vwCl [(a0, .inr (0, [.ref a1, .ref a2, .ref a3, .ref a4, .int (nI K.1), .int (nI en)])), (a1, .inl (cI, 13, .inl K.2.1)), (a2, .inl (cI, 13, .inl K.2.2.1)), (a3, .inl (cI, 13, .inl K.2.2.2.1)), (a4, .inl (cI, 13, .inl K.2.2.2.2)), (b0, .inr (3, [.ref b1, .ref b2])), (b1, .inl (cI, 292, .inl f)), (b2, .inl (cI, 40, .inl g))] H := hP
            have hD : va_D A [(a0, .inr (0, [.ref a1, .ref a2, .ref a3, .ref a4, .int (nI K.1), .int (nI en)])), (a1, .inl (cI, 13, .inl K.2.1)), (a2, .inl (cI, 13, .inl K.2.2.1)), (a3, .inl (cI, 13, .inl K.2.2.2.1)), (a4, .inl (cI, 13, .inl K.2.2.2.2)), (b0, .inr (3, [.ref b1, .ref b2])), (b1, .inl (cI, 292, .inl f)), (b2, .inl (cI, 40, .inl g))] := hD
            refine lv_if_ne (tgt := 87) hx hb dn_C_isWellFormed_80 (by decide) (fun h80 => ?_) (fun h80 => ?_)
            · skip
              refine lv_iconst (v := 0) hx hb dn_C_isWellFormed_87 (by decide) ?_
              exact hret 0 () _ _ _ _ (Or.inr ⟨rfl, by unfold ct_wf; simp [h9, h37, h46, h53, h59, h80]⟩) rfl hP hD hS dn_C_isWellFormed_88
            · skip
              refine lv_iconst (v := 1) hx hb dn_C_isWellFormed_83 (by decide) ?_
              refine lv_goto (tgt := 88) hx hb dn_C_isWellFormed_84 (by decide) ?_
              exact hret 1 () _ _ _ _ (Or.inl ⟨rfl, by unfold ct_wf; refine ⟨?_, ?_, ?_⟩ <;> simp [h9, h37, h46, h53, h59, h80]⟩) rfl hP hD hS dn_C_isWellFormed_88
      · skip
        refine lv_iconst (v := 0) hx hb dn_C_isWellFormed_49 (by decide) ?_
        exact hret 0 () _ _ _ _ (Or.inr ⟨rfl, by unfold ct_wf; simp [h9, h37, h46]⟩) rfl hP hD hS dn_C_isWellFormed_50
  · skip
    refine lv_aload_n hx hb dn_C_isWellFormed_12 rfl (lv_at hl 2 rfl) ?_
    refine lv_iload_n hx hb dn_C_isWellFormed_13 rfl (lv_at hl 3 rfl) ?_
    refine lv_iconst (v := 1) hx hb dn_C_isWellFormed_14 (by decide) ?_
    refine gc_vi (pre := [(a0, .inr (0, [.ref a1, .ref a2, .ref a3, .ref a4, .int (nI K.1), .int (nI en)])), (a1, .inl (cI, 13, .inl K.2.1)), (a2, .inl (cI, 13, .inl K.2.2.1)), (a3, .inl (cI, 13, .inl K.2.2.2.1)), (a4, .inl (cI, 13, .inl K.2.2.2.2))]) (wc := [(b0, .inr (3, [.ref b1, .ref b2])), (b1, .inl (cI, 292, .inl f)), (b2, .inl (cI, 40, .inl g))]) (po := []) (As := [.int (nI r), .int 1]) (rest := []) ⟨hx, hb, hml, hown, hw⟩ (c_G_field l dC dI cI cZ b0 b1 b2 f g r 1 (by omega)) (gw_cV 2 hw mw_438 mw_266 mw_267 mw_2 mw_268 hd_G_field ⟨Nat.le_of_ble_eq_true rfl, Nat.le_of_ble_eq_true rfl⟩) (ci := 3) rfl rfl rfl hK hP hD hS hA rfl hl.1 rfl (Nat.le_of_ble_eq_true rfl) dn_C_isWellFormed_15 ⟨Nat.zero_le _, Nat.zero_le _⟩ (fun r15 u15 H locs hc15 hP hD hS => ?_)
    subst hc15
    have hP : va_P (dC, dI) vwCl [(a0, .inr (0, [.ref a1, .ref a2, .ref a3, .ref a4, .int (nI K.1), .int (nI en)])), (a1, .inl (cI, 13, .inl K.2.1)), (a2, .inl (cI, 13, .inl K.2.2.1)), (a3, .inl (cI, 13, .inl K.2.2.2.1)), (a4, .inl (cI, 13, .inl K.2.2.2.2)), (b0, .inr (3, [.ref b1, .ref b2])), (b1, .inl (cI, 292, .inl f)), (b2, .inl (cI, 40, .inl g))] H := hP
    have hD : va_D A [(a0, .inr (0, [.ref a1, .ref a2, .ref a3, .ref a4, .int (nI K.1), .int (nI en)])), (a1, .inl (cI, 13, .inl K.2.1)), (a2, .inl (cI, 13, .inl K.2.2.1)), (a3, .inl (cI, 13, .inl K.2.2.2.1)), (a4, .inl (cI, 13, .inl K.2.2.2.2)), (b0, .inr (3, [.ref b1, .ref b2])), (b1, .inl (cI, 292, .inl f)), (b2, .inl (cI, 40, .inl g))] := hD
    refine lv_aload_n hx hb dn_C_isWellFormed_18 rfl (lv_at hl 1 rfl) ?_
    refine gc_vi (pre := []) (wc := [(a0, .inr (0, [.ref a1, .ref a2, .ref a3, .ref a4, .int (nI K.1), .int (nI en)])), (a1, .inl (cI, 13, .inl K.2.1)), (a2, .inl (cI, 13, .inl K.2.2.1)), (a3, .inl (cI, 13, .inl K.2.2.2.1)), (a4, .inl (cI, 13, .inl K.2.2.2.2))]) (po := [(b0, .inr (3, [.ref b1, .ref b2])), (b1, .inl (cI, 292, .inl f)), (b2, .inl (cI, 40, .inl g))]) (As := []) (rest := [.int (f (7 * r + 1))]) ⟨hx, hb, hml, hown, hw⟩ (c_C_nextId l dC dI cI cZ a0 a1 a2 a3 a4 K en (by omega) ) (gw_cV 0 hw mw_443 mw_131 mw_132 mw_3 mw_133 hd_C_nextId ⟨Nat.le_of_ble_eq_true rfl, Nat.le_of_ble_eq_true rfl⟩) (ci := 0) rfl rfl rfl hK hP hD hS hA rfl hl.1 rfl (Nat.le_of_ble_eq_true rfl) dn_C_isWellFormed_19 ⟨Nat.zero_le _, Nat.zero_le _⟩ (fun r19 u19 H locs hc19 hP hD hS => ?_)
    subst hc19
    have hP : va_P (dC, dI) vwCl [(a0, .inr (0, [.ref a1, .ref a2, .ref a3, .ref a4, .int (nI K.1), .int (nI en)])), (a1, .inl (cI, 13, .inl K.2.1)), (a2, .inl (cI, 13, .inl K.2.2.1)), (a3, .inl (cI, 13, .inl K.2.2.2.1)), (a4, .inl (cI, 13, .inl K.2.2.2.2)), (b0, .inr (3, [.ref b1, .ref b2])), (b1, .inl (cI, 292, .inl f)), (b2, .inl (cI, 40, .inl g))] H := hP
    have hD : va_D A [(a0, .inr (0, [.ref a1, .ref a2, .ref a3, .ref a4, .int (nI K.1), .int (nI en)])), (a1, .inl (cI, 13, .inl K.2.1)), (a2, .inl (cI, 13, .inl K.2.2.1)), (a3, .inl (cI, 13, .inl K.2.2.2.1)), (a4, .inl (cI, 13, .inl K.2.2.2.2)), (b0, .inr (3, [.ref b1, .ref b2])), (b1, .inl (cI, 292, .inl f)), (b2, .inl (cI, 40, .inl g))] := hD
    refine lv_icmp_ne (tgt := 29) hx hb dn_C_isWellFormed_22 (by decide) (fun h22 => ?_) (fun h22 => ?_)
    · skip
      refine lv_iconst (v := 0) hx hb dn_C_isWellFormed_29 (by decide) ?_
      exact hret 0 () _ _ _ _ (Or.inr ⟨rfl, by unfold ct_wf; simp [h9, h22]⟩) rfl hP hD hS dn_C_isWellFormed_30
    · skip
      refine lv_iconst (v := 1) hx hb dn_C_isWellFormed_25 (by decide) ?_
      refine lv_goto (tgt := 30) hx hb dn_C_isWellFormed_26 (by decide) ?_
      exact hret 1 () _ _ _ _ (Or.inl ⟨rfl, by unfold ct_wf; refine ⟨?_, ?_, ?_⟩ <;> simp [h9, h22]⟩) rfl hP hD hS dn_C_isWellFormed_30
end
section
theorem ok_id {f : Nat → Int32} {k : Int32} {r : Nat} (hok : ∀ q, q < r → ct_ok f k q) (hs : ct_ok f k r) : f (7 * r) ≠ 1 → ∃ j, 1 ≤ j ∧ j ≤ (ct_st f r).1 ∧ f (7 * r + 1) = nI j := fun h =>
  ct_ru_there (by have := (ct_iv_n r hok).1; omega) h hs.2.2.2.2.2.2.2.2

set_option maxRecDepth 100000 in
set_option maxHeartbeats 4000000 in
theorem c_C_isSoundNext (l : Launch) (dC : Nat → ClassId) (dI : Nat → Nat → Nat) (cI cZ : ClassId) (a0 a1 a2 a3 a4 : Nat) (K : ct_T) (r : Nat) (ho : K.1 ≤ 12) (hG : ∀ j, 1 ≤ j → j ≤ K.1 → ∃ g, g < 256 ∧ K.2.2.2.1 j = nI g) (b0 b1 b2 : Nat) (f g : Nat → Int32) (hr : r < 40) (k : Int32) : gc_I l yn_C_isSoundNext (gw yn_C_isSoundNext cn_C_isSoundNext 4 (some .boolean)) (rm_ 5 108) (dC, dI) vwCl (gT cI cZ) [.ref a0, .ref b0, .int (nI r), .int k] [(a0, .inr (0, [.ref a1, .ref a2, .ref a3, .ref a4, .int (nI K.1), .int (nI r)])), (a1, .inl (cI, 13, .inl K.2.1)), (a2, .inl (cI, 13, .inl K.2.2.1)), (a3, .inl (cI, 13, .inl K.2.2.2.1)), (a4, .inl (cI, 13, .inl K.2.2.2.2)), (b0, .inr (3, [.ref b1, .ref b2])), (b1, .inl (cI, 292, .inl f)), (b2, .inl (cI, 40, .inl g))] (fun x (_ : Unit) => (x = 1 ∧ ct_okK f k r K) ∨ (x = 0 ∧ ¬ ct_okK f k r K)) (fun _ => [(a0, .inr (0, [.ref a1, .ref a2, .ref a3, .ref a4, .int (nI K.1), .int (nI r)])), (a1, .inl (cI, 13, .inl K.2.1)), (a2, .inl (cI, 13, .inl K.2.2.1)), (a3, .inl (cI, 13, .inl K.2.2.2.1)), (a4, .inl (cI, 13, .inl K.2.2.2.2)), (b0, .inr (3, [.ref b1, .ref b2])), (b1, .inl (cI, 292, .inl f)), (b2, .inl (cI, 40, .inl g))]) := by
  refine gc_I_of (cc := cn_C_isSoundNext) (maxL := 4) (ty := .boolean) (by decide) rfl (Nat.le_of_ble_eq_true rfl) ?_
  intro pp ee ss mm ar be me cd A Q ls H0 H locs hx hb hml hown hts hK hP hD hS hA hl hret
  have hw : ∀ w ∈ gw_T, w.before ar ss = true := fun w h => hts w (List.mem_cons_of_mem _ h)
  have hl : lv_has ls 4 [(0, .ref a0), (1, .ref b0), (2, .int (nI r)), (3, .int k)] := hl
  refine lv_aload_n hx hb dn_C_isSoundNext_0 rfl (lv_at hl 1 rfl) ?_
  refine lv_iload_n hx hb dn_C_isSoundNext_1 rfl (lv_at hl 2 rfl) ?_
  refine gc_vi (pre := [(a0, .inr (0, [.ref a1, .ref a2, .ref a3, .ref a4, .int (nI K.1), .int (nI r)])), (a1, .inl (cI, 13, .inl K.2.1)), (a2, .inl (cI, 13, .inl K.2.2.1)), (a3, .inl (cI, 13, .inl K.2.2.2.1)), (a4, .inl (cI, 13, .inl K.2.2.2.2))]) (wc := [(b0, .inr (3, [.ref b1, .ref b2])), (b1, .inl (cI, 292, .inl f)), (b2, .inl (cI, 40, .inl g))]) (po := []) (As := [.int (nI r)]) (rest := []) ⟨hx, hb, hml, hown, hw⟩ (c_G_checkIsRight l dC dI cI cZ b0 b1 b2 f g r (by omega)) (gw_cV 1 hw mw_430 mw_431 mw_432 mw_2 mw_433 hd_G_checkIsRight ⟨Nat.le_of_ble_eq_true rfl, Nat.le_of_ble_eq_true rfl⟩) (ci := 3) rfl rfl rfl hK hP hD hS hA rfl hl.1 rfl (Nat.le_of_ble_eq_true rfl) dn_C_isSoundNext_2 ⟨Nat.zero_le _, Nat.zero_le _⟩ (fun r2 u2 H locs hc2 hP hD hS => ?_)
  have hP : va_P (dC, dI) vwCl [(a0, .inr (0, [.ref a1, .ref a2, .ref a3, .ref a4, .int (nI K.1), .int (nI r)])), (a1, .inl (cI, 13, .inl K.2.1)), (a2, .inl (cI, 13, .inl K.2.2.1)), (a3, .inl (cI, 13, .inl K.2.2.2.1)), (a4, .inl (cI, 13, .inl K.2.2.2.2)), (b0, .inr (3, [.ref b1, .ref b2])), (b1, .inl (cI, 292, .inl f)), (b2, .inl (cI, 40, .inl g))] H := hP
  have hD : va_D A [(a0, .inr (0, [.ref a1, .ref a2, .ref a3, .ref a4, .int (nI K.1), .int (nI r)])), (a1, .inl (cI, 13, .inl K.2.1)), (a2, .inl (cI, 13, .inl K.2.2.1)), (a3, .inl (cI, 13, .inl K.2.2.2.1)), (a4, .inl (cI, 13, .inl K.2.2.2.2)), (b0, .inr (3, [.ref b1, .ref b2])), (b1, .inl (cI, 292, .inl f)), (b2, .inl (cI, 40, .inl g))] := hD
  rcases hc2 with ⟨rfl, hk2⟩ | ⟨rfl, hk2⟩
  · skip
    refine lv_if_eq (tgt := 61) hx hb dn_C_isSoundNext_5 (by decide) (fun h => absurd h (by decide)) (fun _ => ?_)
    refine lv_aload_n hx hb dn_C_isSoundNext_8 rfl (lv_at hl 1 rfl) ?_
    refine lv_iload_n hx hb dn_C_isSoundNext_9 rfl (lv_at hl 2 rfl) ?_
    refine lv_iload_n hx hb dn_C_isSoundNext_10 rfl (lv_at hl 3 rfl) ?_
    refine gc_si (pre := [(a0, .inr (0, [.ref a1, .ref a2, .ref a3, .ref a4, .int (nI K.1), .int (nI r)])), (a1, .inl (cI, 13, .inl K.2.1)), (a2, .inl (cI, 13, .inl K.2.2.1)), (a3, .inl (cI, 13, .inl K.2.2.2.1)), (a4, .inl (cI, 13, .inl K.2.2.2.2))]) (wc := [(b0, .inr (3, [.ref b1, .ref b2])), (b1, .inl (cI, 292, .inl f)), (b2, .inl (cI, 40, .inl g))]) (po := []) (As := [.ref b0, .int (nI r), .int k]) (rest := []) ⟨hx, hb, hml, hown, hw⟩ (c_C_isTimely l dC dI cI cZ b0 b1 b2 f g r (by omega) k) (gw_cS 3 hw mw_435 mw_436 mw_3 mw_437 hd_C_isTimely ⟨Nat.le_of_ble_eq_true rfl, Nat.le_of_ble_eq_true rfl⟩) hK hP hD hS hA rfl hl.1 rfl (Nat.le_of_ble_eq_true rfl) dn_C_isSoundNext_11 ⟨Nat.zero_le _, Nat.zero_le _⟩ (fun r11 u11 H locs hc11 hP hD hS => ?_)
    have hP : va_P (dC, dI) vwCl [(a0, .inr (0, [.ref a1, .ref a2, .ref a3, .ref a4, .int (nI K.1), .int (nI r)])), (a1, .inl (cI, 13, .inl K.2.1)), (a2, .inl (cI, 13, .inl K.2.2.1)), (a3, .inl (cI, 13, .inl K.2.2.2.1)), (a4, .inl (cI, 13, .inl K.2.2.2.2)), (b0, .inr (3, [.ref b1, .ref b2])), (b1, .inl (cI, 292, .inl f)), (b2, .inl (cI, 40, .inl g))] H := hP
    have hD : va_D A [(a0, .inr (0, [.ref a1, .ref a2, .ref a3, .ref a4, .int (nI K.1), .int (nI r)])), (a1, .inl (cI, 13, .inl K.2.1)), (a2, .inl (cI, 13, .inl K.2.2.1)), (a3, .inl (cI, 13, .inl K.2.2.2.1)), (a4, .inl (cI, 13, .inl K.2.2.2.2)), (b0, .inr (3, [.ref b1, .ref b2])), (b1, .inl (cI, 292, .inl f)), (b2, .inl (cI, 40, .inl g))] := hD
    rcases hc11 with ⟨rfl, hm11⟩ | ⟨rfl, hm11⟩
    · skip
      refine lv_if_eq (tgt := 61) hx hb dn_C_isSoundNext_14 (by decide) (fun h => absurd h (by decide)) (fun _ => ?_)
      refine lv_aload_n hx hb dn_C_isSoundNext_17 rfl (lv_at hl 0 rfl) ?_
      refine lv_aload_n hx hb dn_C_isSoundNext_18 rfl (lv_at hl 1 rfl) ?_
      refine lv_iload_n hx hb dn_C_isSoundNext_19 rfl (lv_at hl 2 rfl) ?_
      refine gc_vi (pre := []) (wc := [(a0, .inr (0, [.ref a1, .ref a2, .ref a3, .ref a4, .int (nI K.1), .int (nI r)])), (a1, .inl (cI, 13, .inl K.2.1)), (a2, .inl (cI, 13, .inl K.2.2.1)), (a3, .inl (cI, 13, .inl K.2.2.2.1)), (a4, .inl (cI, 13, .inl K.2.2.2.2)), (b0, .inr (3, [.ref b1, .ref b2])), (b1, .inl (cI, 292, .inl f)), (b2, .inl (cI, 40, .inl g))]) (po := []) (As := [.ref b0, .int (nI r)]) (rest := []) ⟨hx, hb, hml, hown, hw⟩ (c_C_isWellFormed l dC dI cI cZ a0 a1 a2 a3 a4 K r (by omega) b0 b1 b2 f g r (by omega)) (gw_cV 2 hw mw_439 mw_441 mv_19 mw_3 mw_442 hd_C_isWellFormed ⟨Nat.le_of_ble_eq_true rfl, Nat.le_of_ble_eq_true rfl⟩) (ci := 0) rfl rfl rfl hK hP hD hS hA rfl hl.1 rfl (Nat.le_of_ble_eq_true rfl) dn_C_isSoundNext_20 ⟨Nat.zero_le _, Nat.zero_le _⟩ (fun r20 u20 H locs hc20 hP hD hS => ?_)
      have hP : va_P (dC, dI) vwCl [(a0, .inr (0, [.ref a1, .ref a2, .ref a3, .ref a4, .int (nI K.1), .int (nI r)])), (a1, .inl (cI, 13, .inl K.2.1)), (a2, .inl (cI, 13, .inl K.2.2.1)), (a3, .inl (cI, 13, .inl K.2.2.2.1)), (a4, .inl (cI, 13, .inl K.2.2.2.2)), (b0, .inr (3, [.ref b1, .ref b2])), (b1, .inl (cI, 292, .inl f)), (b2, .inl (cI, 40, .inl g))] H := hP
      have hD : va_D A [(a0, .inr (0, [.ref a1, .ref a2, .ref a3, .ref a4, .int (nI K.1), .int (nI r)])), (a1, .inl (cI, 13, .inl K.2.1)), (a2, .inl (cI, 13, .inl K.2.2.1)), (a3, .inl (cI, 13, .inl K.2.2.2.1)), (a4, .inl (cI, 13, .inl K.2.2.2.2)), (b0, .inr (3, [.ref b1, .ref b2])), (b1, .inl (cI, 292, .inl f)), (b2, .inl (cI, 40, .inl g))] := hD
      rcases hc20 with ⟨rfl, hm20⟩ | ⟨rfl, hm20⟩
      · skip
        refine lv_if_eq (tgt := 61) hx hb dn_C_isSoundNext_23 (by decide) (fun h => absurd h (by decide)) (fun _ => ?_)
        refine lv_aload_n hx hb dn_C_isSoundNext_26 rfl (lv_at hl 0 rfl) ?_
        refine lv_aload_n hx hb dn_C_isSoundNext_27 rfl (lv_at hl 1 rfl) ?_
        refine lv_iload_n hx hb dn_C_isSoundNext_28 rfl (lv_at hl 2 rfl) ?_
        refine lv_iconst (v := 0) hx hb dn_C_isSoundNext_29 (by decide) ?_
        refine gc_vi (pre := [(a0, .inr (0, [.ref a1, .ref a2, .ref a3, .ref a4, .int (nI K.1), .int (nI r)])), (a1, .inl (cI, 13, .inl K.2.1)), (a2, .inl (cI, 13, .inl K.2.2.1)), (a3, .inl (cI, 13, .inl K.2.2.2.1)), (a4, .inl (cI, 13, .inl K.2.2.2.2))]) (wc := [(b0, .inr (3, [.ref b1, .ref b2])), (b1, .inl (cI, 292, .inl f)), (b2, .inl (cI, 40, .inl g))]) (po := []) (As := [.int (nI r), .int 0]) (rest := [.ref a0]) ⟨hx, hb, hml, hown, hw⟩ (c_G_field0 l dC dI cI cZ b0 b1 b2 f g r (by omega)) (gw_cV 2 hw mw_438 mw_266 mw_267 mw_2 mw_268 hd_G_field ⟨Nat.le_of_ble_eq_true rfl, Nat.le_of_ble_eq_true rfl⟩) (ci := 3) rfl rfl rfl hK hP hD hS hA rfl hl.1 rfl (Nat.le_of_ble_eq_true rfl) dn_C_isSoundNext_30 ⟨Nat.zero_le _, Nat.zero_le _⟩ (fun r30 u30 H locs hc30 hP hD hS => ?_)
        subst hc30
        have hP : va_P (dC, dI) vwCl [(a0, .inr (0, [.ref a1, .ref a2, .ref a3, .ref a4, .int (nI K.1), .int (nI r)])), (a1, .inl (cI, 13, .inl K.2.1)), (a2, .inl (cI, 13, .inl K.2.2.1)), (a3, .inl (cI, 13, .inl K.2.2.2.1)), (a4, .inl (cI, 13, .inl K.2.2.2.2)), (b0, .inr (3, [.ref b1, .ref b2])), (b1, .inl (cI, 292, .inl f)), (b2, .inl (cI, 40, .inl g))] H := hP
        have hD : va_D A [(a0, .inr (0, [.ref a1, .ref a2, .ref a3, .ref a4, .int (nI K.1), .int (nI r)])), (a1, .inl (cI, 13, .inl K.2.1)), (a2, .inl (cI, 13, .inl K.2.2.1)), (a3, .inl (cI, 13, .inl K.2.2.2.1)), (a4, .inl (cI, 13, .inl K.2.2.2.2)), (b0, .inr (3, [.ref b1, .ref b2])), (b1, .inl (cI, 292, .inl f)), (b2, .inl (cI, 40, .inl g))] := hD
        refine lv_aload_n hx hb dn_C_isSoundNext_33 rfl (lv_at hl 1 rfl) ?_
        refine lv_iload_n hx hb dn_C_isSoundNext_34 rfl (lv_at hl 2 rfl) ?_
        refine lv_iconst (v := 1) hx hb dn_C_isSoundNext_35 (by decide) ?_
        refine gc_vi (pre := [(a0, .inr (0, [.ref a1, .ref a2, .ref a3, .ref a4, .int (nI K.1), .int (nI r)])), (a1, .inl (cI, 13, .inl K.2.1)), (a2, .inl (cI, 13, .inl K.2.2.1)), (a3, .inl (cI, 13, .inl K.2.2.2.1)), (a4, .inl (cI, 13, .inl K.2.2.2.2))]) (wc := [(b0, .inr (3, [.ref b1, .ref b2])), (b1, .inl (cI, 292, .inl f)), (b2, .inl (cI, 40, .inl g))]) (po := []) (As := [.int (nI r), .int 1]) (rest := [.int (f (7 * r)), .ref a0]) ⟨hx, hb, hml, hown, hw⟩ (c_G_field l dC dI cI cZ b0 b1 b2 f g r 1 (by omega)) (gw_cV 2 hw mw_438 mw_266 mw_267 mw_2 mw_268 hd_G_field ⟨Nat.le_of_ble_eq_true rfl, Nat.le_of_ble_eq_true rfl⟩) (ci := 3) rfl rfl rfl hK hP hD hS hA rfl hl.1 rfl (Nat.le_of_ble_eq_true rfl) dn_C_isSoundNext_36 ⟨Nat.zero_le _, Nat.zero_le _⟩ (fun r36 u36 H locs hc36 hP hD hS => ?_)
        subst hc36
        have hP : va_P (dC, dI) vwCl [(a0, .inr (0, [.ref a1, .ref a2, .ref a3, .ref a4, .int (nI K.1), .int (nI r)])), (a1, .inl (cI, 13, .inl K.2.1)), (a2, .inl (cI, 13, .inl K.2.2.1)), (a3, .inl (cI, 13, .inl K.2.2.2.1)), (a4, .inl (cI, 13, .inl K.2.2.2.2)), (b0, .inr (3, [.ref b1, .ref b2])), (b1, .inl (cI, 292, .inl f)), (b2, .inl (cI, 40, .inl g))] H := hP
        have hD : va_D A [(a0, .inr (0, [.ref a1, .ref a2, .ref a3, .ref a4, .int (nI K.1), .int (nI r)])), (a1, .inl (cI, 13, .inl K.2.1)), (a2, .inl (cI, 13, .inl K.2.2.1)), (a3, .inl (cI, 13, .inl K.2.2.2.1)), (a4, .inl (cI, 13, .inl K.2.2.2.2)), (b0, .inr (3, [.ref b1, .ref b2])), (b1, .inl (cI, 292, .inl f)), (b2, .inl (cI, 40, .inl g))] := hD
        refine lv_aload_n hx hb dn_C_isSoundNext_39 rfl (lv_at hl 1 rfl) ?_
        refine lv_iload_n hx hb dn_C_isSoundNext_40 rfl (lv_at hl 2 rfl) ?_
        refine lv_iconst (v := 2) hx hb dn_C_isSoundNext_41 (by decide) ?_
        refine gc_vi (pre := [(a0, .inr (0, [.ref a1, .ref a2, .ref a3, .ref a4, .int (nI K.1), .int (nI r)])), (a1, .inl (cI, 13, .inl K.2.1)), (a2, .inl (cI, 13, .inl K.2.2.1)), (a3, .inl (cI, 13, .inl K.2.2.2.1)), (a4, .inl (cI, 13, .inl K.2.2.2.2))]) (wc := [(b0, .inr (3, [.ref b1, .ref b2])), (b1, .inl (cI, 292, .inl f)), (b2, .inl (cI, 40, .inl g))]) (po := []) (As := [.int (nI r), .int 2]) (rest := [.int (f (7 * r + 1)), .int (f (7 * r)), .ref a0]) ⟨hx, hb, hml, hown, hw⟩ (c_G_field l dC dI cI cZ b0 b1 b2 f g r 2 (by omega)) (gw_cV 2 hw mw_438 mw_266 mw_267 mw_2 mw_268 hd_G_field ⟨Nat.le_of_ble_eq_true rfl, Nat.le_of_ble_eq_true rfl⟩) (ci := 3) rfl rfl rfl hK hP hD hS hA rfl hl.1 rfl (Nat.le_of_ble_eq_true rfl) dn_C_isSoundNext_42 ⟨Nat.zero_le _, Nat.zero_le _⟩ (fun r42 u42 H locs hc42 hP hD hS => ?_)
        subst hc42
        have hP : va_P (dC, dI) vwCl [(a0, .inr (0, [.ref a1, .ref a2, .ref a3, .ref a4, .int (nI K.1), .int (nI r)])), (a1, .inl (cI, 13, .inl K.2.1)), (a2, .inl (cI, 13, .inl K.2.2.1)), (a3, .inl (cI, 13, .inl K.2.2.2.1)), (a4, .inl (cI, 13, .inl K.2.2.2.2)), (b0, .inr (3, [.ref b1, .ref b2])), (b1, .inl (cI, 292, .inl f)), (b2, .inl (cI, 40, .inl g))] H := hP
        have hD : va_D A [(a0, .inr (0, [.ref a1, .ref a2, .ref a3, .ref a4, .int (nI K.1), .int (nI r)])), (a1, .inl (cI, 13, .inl K.2.1)), (a2, .inl (cI, 13, .inl K.2.2.1)), (a3, .inl (cI, 13, .inl K.2.2.2.1)), (a4, .inl (cI, 13, .inl K.2.2.2.2)), (b0, .inr (3, [.ref b1, .ref b2])), (b1, .inl (cI, 292, .inl f)), (b2, .inl (cI, 40, .inl g))] := hD
        refine lv_aload_n hx hb dn_C_isSoundNext_45 rfl (lv_at hl 1 rfl) ?_
        refine lv_iload_n hx hb dn_C_isSoundNext_46 rfl (lv_at hl 2 rfl) ?_
        refine lv_iconst (v := 5) hx hb dn_C_isSoundNext_47 (by decide) ?_
        refine gc_vi (pre := [(a0, .inr (0, [.ref a1, .ref a2, .ref a3, .ref a4, .int (nI K.1), .int (nI r)])), (a1, .inl (cI, 13, .inl K.2.1)), (a2, .inl (cI, 13, .inl K.2.2.1)), (a3, .inl (cI, 13, .inl K.2.2.2.1)), (a4, .inl (cI, 13, .inl K.2.2.2.2))]) (wc := [(b0, .inr (3, [.ref b1, .ref b2])), (b1, .inl (cI, 292, .inl f)), (b2, .inl (cI, 40, .inl g))]) (po := []) (As := [.int (nI r), .int 5]) (rest := [.int (f (7 * r + 2)), .int (f (7 * r + 1)), .int (f (7 * r)), .ref a0]) ⟨hx, hb, hml, hown, hw⟩ (c_G_field l dC dI cI cZ b0 b1 b2 f g r 5 (by omega)) (gw_cV 2 hw mw_438 mw_266 mw_267 mw_2 mw_268 hd_G_field ⟨Nat.le_of_ble_eq_true rfl, Nat.le_of_ble_eq_true rfl⟩) (ci := 3) rfl rfl rfl hK hP hD hS hA rfl hl.1 rfl (Nat.le_of_ble_eq_true rfl) dn_C_isSoundNext_48 ⟨Nat.zero_le _, Nat.zero_le _⟩ (fun r48 u48 H locs hc48 hP hD hS => ?_)
        subst hc48
        have hP : va_P (dC, dI) vwCl [(a0, .inr (0, [.ref a1, .ref a2, .ref a3, .ref a4, .int (nI K.1), .int (nI r)])), (a1, .inl (cI, 13, .inl K.2.1)), (a2, .inl (cI, 13, .inl K.2.2.1)), (a3, .inl (cI, 13, .inl K.2.2.2.1)), (a4, .inl (cI, 13, .inl K.2.2.2.2)), (b0, .inr (3, [.ref b1, .ref b2])), (b1, .inl (cI, 292, .inl f)), (b2, .inl (cI, 40, .inl g))] H := hP
        have hD : va_D A [(a0, .inr (0, [.ref a1, .ref a2, .ref a3, .ref a4, .int (nI K.1), .int (nI r)])), (a1, .inl (cI, 13, .inl K.2.1)), (a2, .inl (cI, 13, .inl K.2.2.1)), (a3, .inl (cI, 13, .inl K.2.2.2.1)), (a4, .inl (cI, 13, .inl K.2.2.2.2)), (b0, .inr (3, [.ref b1, .ref b2])), (b1, .inl (cI, 292, .inl f)), (b2, .inl (cI, 40, .inl g))] := hD
        refine gc_vi (pre := []) (wc := [(a0, .inr (0, [.ref a1, .ref a2, .ref a3, .ref a4, .int (nI K.1), .int (nI r)])), (a1, .inl (cI, 13, .inl K.2.1)), (a2, .inl (cI, 13, .inl K.2.2.1)), (a3, .inl (cI, 13, .inl K.2.2.2.1)), (a4, .inl (cI, 13, .inl K.2.2.2.2))]) (po := [(b0, .inr (3, [.ref b1, .ref b2])), (b1, .inl (cI, 292, .inl f)), (b2, .inl (cI, 40, .inl g))]) (As := [.int (f (7 * r)), .int (f (7 * r + 1)), .int (f (7 * r + 2)), .int (f (7 * r + 5))]) (rest := []) ⟨hx, hb, hml, hown, hw⟩ (c_C_verdict l dC dI cI cZ a0 a1 a2 a3 a4 K r (by omega) hG (f (7 * r)) (f (7 * r + 1)) (f (7 * r + 2)) (f (7 * r + 5)) (by omega)) (gw_cV 4 hw mw_444 mw_139 mw_140 mw_3 mw_141 hd_C_verdict ⟨Nat.le_of_ble_eq_true rfl, Nat.le_of_ble_eq_true rfl⟩) (ci := 0) rfl rfl rfl hK hP hD hS hA rfl hl.1 rfl (Nat.le_of_ble_eq_true rfl) dn_C_isSoundNext_51 ⟨Nat.zero_le _, Nat.zero_le _⟩ (fun r51 u51 H locs hc51 hP hD hS => ?_)
        subst hc51
        have hP : va_P (dC, dI) vwCl [(a0, .inr (0, [.ref a1, .ref a2, .ref a3, .ref a4, .int (nI K.1), .int (nI r)])), (a1, .inl (cI, 13, .inl K.2.1)), (a2, .inl (cI, 13, .inl K.2.2.1)), (a3, .inl (cI, 13, .inl K.2.2.2.1)), (a4, .inl (cI, 13, .inl K.2.2.2.2)), (b0, .inr (3, [.ref b1, .ref b2])), (b1, .inl (cI, 292, .inl f)), (b2, .inl (cI, 40, .inl g))] H := hP
        have hD : va_D A [(a0, .inr (0, [.ref a1, .ref a2, .ref a3, .ref a4, .int (nI K.1), .int (nI r)])), (a1, .inl (cI, 13, .inl K.2.1)), (a2, .inl (cI, 13, .inl K.2.2.1)), (a3, .inl (cI, 13, .inl K.2.2.2.1)), (a4, .inl (cI, 13, .inl K.2.2.2.2)), (b0, .inr (3, [.ref b1, .ref b2])), (b1, .inl (cI, 292, .inl f)), (b2, .inl (cI, 40, .inl g))] := hD
        refine lv_if_ne (tgt := 61) hx hb dn_C_isSoundNext_54 (by decide) (fun h54 => ?_) (fun h54 => ?_)
        · skip
          refine lv_iconst (v := 0) hx hb dn_C_isSoundNext_61 (by decide) ?_
          exact hret 0 () _ _ _ _ (Or.inr ⟨rfl, fun q => by first | exact hk2 q.1 | exact hm11 q.2.1 | exact hm20 q.2.2.1 | exact h54 ((ct_vd_lt hr _ _ _ _).trans q.2.2.2)⟩) rfl hP hD hS dn_C_isSoundNext_62
        · skip
          refine lv_iconst (v := 1) hx hb dn_C_isSoundNext_57 (by decide) ?_
          refine lv_goto (tgt := 62) hx hb dn_C_isSoundNext_58 (by decide) ?_
          exact hret 1 () _ _ _ _ (Or.inl ⟨rfl, hk2, hm11, hm20, (ct_vd_lt hr _ _ _ _).symm.trans h54⟩) rfl hP hD hS dn_C_isSoundNext_62
      · skip
        refine lv_if_eq (tgt := 61) hx hb dn_C_isSoundNext_23 (by decide) (fun _ => ?_) (fun h => absurd h (by decide))
        refine lv_iconst (v := 0) hx hb dn_C_isSoundNext_61 (by decide) ?_
        exact hret 0 () _ _ _ _ (Or.inr ⟨rfl, fun q => by first | exact hk2 q.1 | exact hm11 q.2.1 | exact hm20 q.2.2.1 | exact h54 ((ct_vd_lt hr _ _ _ _).trans q.2.2.2)⟩) rfl hP hD hS dn_C_isSoundNext_62
    · skip
      refine lv_if_eq (tgt := 61) hx hb dn_C_isSoundNext_14 (by decide) (fun _ => ?_) (fun h => absurd h (by decide))
      refine lv_iconst (v := 0) hx hb dn_C_isSoundNext_61 (by decide) ?_
      exact hret 0 () _ _ _ _ (Or.inr ⟨rfl, fun q => by first | exact hk2 q.1 | exact hm11 q.2.1 | exact hm20 q.2.2.1 | exact h54 ((ct_vd_lt hr _ _ _ _).trans q.2.2.2)⟩) rfl hP hD hS dn_C_isSoundNext_62
  · skip
    refine lv_if_eq (tgt := 61) hx hb dn_C_isSoundNext_5 (by decide) (fun _ => ?_) (fun h => absurd h (by decide))
    refine lv_iconst (v := 0) hx hb dn_C_isSoundNext_61 (by decide) ?_
    exact hret 0 () _ _ _ _ (Or.inr ⟨rfl, fun q => by first | exact hk2 q.1 | exact hm11 q.2.1 | exact hm20 q.2.2.1 | exact h54 ((ct_vd_lt hr _ _ _ _).trans q.2.2.2)⟩) rfl hP hD hS dn_C_isSoundNext_62

set_option maxRecDepth 100000 in
set_option maxHeartbeats 4000000 in
theorem c_C_replay (l : Launch) (dC : Nat → ClassId) (dI : Nat → Nat → Nat) (cI cZ : ClassId) (a0 a1 a2 a3 a4 : Nat) (K : ct_T) (en : Nat) (b0 b1 b2 : Nat) (f g : Nat → Int32) (k : Int32) : gc_V l yn_C_replay (gw yn_C_replay cn_C_replay 4 none) (rm_ 6 131) (dC, dI) vwCl (gT cI cZ) [.ref a0, .ref b0, .int k] [(a0, .inr (0, [.ref a1, .ref a2, .ref a3, .ref a4, .int (nI K.1), .int (nI en)])), (a1, .inl (cI, 13, .inl K.2.1)), (a2, .inl (cI, 13, .inl K.2.2.1)), (a3, .inl (cI, 13, .inl K.2.2.2.1)), (a4, .inl (cI, 13, .inl K.2.2.2.2)), (b0, .inr (3, [.ref b1, .ref b2])), (b1, .inl (cI, 292, .inl f)), (b2, .inl (cI, 40, .inl g))] (fun (u : ct_T × Nat) => ct_n f k u.2 ∧ ct_eq u.1 (ct_st f u.2)) (fun u => [(a0, .inr (0, [.ref a1, .ref a2, .ref a3, .ref a4, .int (nI u.1.1), .int (nI u.2)])), (a1, .inl (cI, 13, .inl u.1.2.1)), (a2, .inl (cI, 13, .inl u.1.2.2.1)), (a3, .inl (cI, 13, .inl u.1.2.2.2.1)), (a4, .inl (cI, 13, .inl u.1.2.2.2.2)), (b0, .inr (3, [.ref b1, .ref b2])), (b1, .inl (cI, 292, .inl f)), (b2, .inl (cI, 40, .inl g))]) := by
  refine gc_V_of (cc := cn_C_replay) (maxL := 4) (by decide) rfl (Nat.le_of_ble_eq_true rfl) ?_
  intro pp ee ss mm ar be me cd A Q ls H0 H locs hx hb hml hown hts hK hP hD hS hA hl hret
  have hw : ∀ w ∈ gw_T, w.before ar ss = true := fun w h => hts w (List.mem_cons_of_mem _ h)
  have hl : lv_has ls 4 [(0, .ref a0), (1, .ref b0), (2, .int k)] := hl
  refine lv_aload_n hx hb dn_C_replay_0 rfl (lv_at hl 0 rfl) ?_
  refine lv_iconst (v := 0) hx hb dn_C_replay_1 (by decide) ?_
  refine va_put (D := (dC, dI)) (ci := 0) (v := .int 0) (ty := .int) (C := rn_C) (T := tn_C) (N := 6) hx hb hw ml_C tt_C to_C nd_C hown hK hP hD hS 0 rfl rfl 4 (by decide) (hw _ mw_41) (fun _ h9 => h9) rfl (by decide +kernel) rfl rfl (Nat.le_of_ble_eq_true rfl) dn_C_replay_2 (fun H locs hP hD hS => ?_)
  have hP : va_P (dC, dI) vwCl [(a0, .inr (0, [.ref a1, .ref a2, .ref a3, .ref a4, .int 0, .int (nI en)])), (a1, .inl (cI, 13, .inl K.2.1)), (a2, .inl (cI, 13, .inl K.2.2.1)), (a3, .inl (cI, 13, .inl K.2.2.2.1)), (a4, .inl (cI, 13, .inl K.2.2.2.2)), (b0, .inr (3, [.ref b1, .ref b2])), (b1, .inl (cI, 292, .inl f)), (b2, .inl (cI, 40, .inl g))] H := hP
  have hD : va_D A [(a0, .inr (0, [.ref a1, .ref a2, .ref a3, .ref a4, .int 0, .int (nI en)])), (a1, .inl (cI, 13, .inl K.2.1)), (a2, .inl (cI, 13, .inl K.2.2.1)), (a3, .inl (cI, 13, .inl K.2.2.2.1)), (a4, .inl (cI, 13, .inl K.2.2.2.2)), (b0, .inr (3, [.ref b1, .ref b2])), (b1, .inl (cI, 292, .inl f)), (b2, .inl (cI, 40, .inl g))] := hD
  refine lv_aload_n hx hb dn_C_replay_5 rfl (lv_at hl 0 rfl) ?_
  refine lv_iconst (v := 0) hx hb dn_C_replay_6 (by decide) ?_
  refine va_put (D := (dC, dI)) (ci := 0) (v := .int 0) (ty := .int) (C := rn_C) (T := tn_C) (N := 6) hx hb hw ml_C tt_C to_C nd_C hown hK hP hD hS 0 rfl rfl 5 (by decide) (hw _ mw_42) (fun _ h9 => h9) rfl (by decide +kernel) rfl rfl (Nat.le_of_ble_eq_true rfl) dn_C_replay_7 (fun H locs hP hD hS => ?_)
  have hP : va_P (dC, dI) vwCl [(a0, .inr (0, [.ref a1, .ref a2, .ref a3, .ref a4, .int 0, .int 0])), (a1, .inl (cI, 13, .inl K.2.1)), (a2, .inl (cI, 13, .inl K.2.2.1)), (a3, .inl (cI, 13, .inl K.2.2.2.1)), (a4, .inl (cI, 13, .inl K.2.2.2.2)), (b0, .inr (3, [.ref b1, .ref b2])), (b1, .inl (cI, 292, .inl f)), (b2, .inl (cI, 40, .inl g))] H := hP
  have hD : va_D A [(a0, .inr (0, [.ref a1, .ref a2, .ref a3, .ref a4, .int 0, .int 0])), (a1, .inl (cI, 13, .inl K.2.1)), (a2, .inl (cI, 13, .inl K.2.2.1)), (a3, .inl (cI, 13, .inl K.2.2.2.1)), (a4, .inl (cI, 13, .inl K.2.2.2.2)), (b0, .inr (3, [.ref b1, .ref b2])), (b1, .inl (cI, 292, .inl f)), (b2, .inl (cI, 40, .inl g))] := hD
  refine lv_iconst (v := 0) hx hb dn_C_replay_10 (by decide) ?_
  refine lv_istore_n (lv' := [(3, .int 0), (0, .ref a0), (1, .ref b0), (2, .int k)]) hx hb dn_C_replay_11 rfl hl (by decide) rfl (fun ls hl => ?_)
  have lp12 : ∀ (n_ : Nat) (r : Nat) (Kc : ct_T) (ls : Array Slot) (H : Heap) (locs : List Loc), 40 - r = n_ → lv_has ls 4 [(0, .ref a0), (1, .ref b0), (2, .int k), (3, .int (nI r))] → va_P (dC, dI) vwCl [(a0, .inr (0, [.ref a1, .ref a2, .ref a3, .ref a4, .int (nI Kc.1), .int (nI r)])), (a1, .inl (cI, 13, .inl Kc.2.1)), (a2, .inl (cI, 13, .inl Kc.2.2.1)), (a3, .inl (cI, 13, .inl Kc.2.2.2.1)), (a4, .inl (cI, 13, .inl Kc.2.2.2.2)), (b0, .inr (3, [.ref b1, .ref b2])), (b1, .inl (cI, 292, .inl f)), (b2, .inl (cI, 40, .inl g))] H → va_D A [(a0, .inr (0, [.ref a1, .ref a2, .ref a3, .ref a4, .int (nI Kc.1), .int (nI r)])), (a1, .inl (cI, 13, .inl Kc.2.1)), (a2, .inl (cI, 13, .inl Kc.2.2.1)), (a3, .inl (cI, 13, .inl Kc.2.2.2.1)), (a4, .inl (cI, 13, .inl Kc.2.2.2.2)), (b0, .inr (3, [.ref b1, .ref b2])), (b1, .inl (cI, 292, .inl f)), (b2, .inl (cI, 40, .inl g))] → va_S A H0 H locs → (r ≤ 40) → (∀ q, q < r → ct_ok f k q) → (ct_eq Kc (ct_st f r)) → W pp l ee (headSpec (gw yn_C_replay cn_C_replay 4 none) (rm_ 6 131)).room ss mm ar be me cd H locs 0 0 Q (F0 mm 12 ls []) := by
    intro n_
    induction n_ using Nat.strongRecOn with
    | ind n_ ih =>
      intro r Kc ls H locs hn_ hl hP hD hS hr hok heq
      refine lv_iload_n hx hb dn_C_replay_12 rfl (lv_at hl 3 rfl) ?_
      refine lv_bipush (v := 40) hx hb dn_C_replay_13 (by decide) ?_
      refine gr_cge (tgt := 57) hx hb r 40 rfl rfl (by omega) (by decide) dn_C_replay_15 (by decide) (fun h15 => ?_) (fun h15 => ?_)
      · skip
        exact hret (Kc, r) _ _ _ _ ⟨⟨by omega, hok, fun q => absurd q (by omega)⟩, heq⟩ hP hD hS dn_C_replay_57
      · skip
        refine lv_aload_n hx hb dn_C_replay_18 rfl (lv_at hl 0 rfl) ?_
        refine lv_aload_n hx hb dn_C_replay_19 rfl (lv_at hl 1 rfl) ?_
        refine lv_iload_n hx hb dn_C_replay_20 rfl (lv_at hl 3 rfl) ?_
        refine lv_iload_n hx hb dn_C_replay_21 rfl (lv_at hl 2 rfl) ?_
        refine gc_vi (pre := []) (wc := [(a0, .inr (0, [.ref a1, .ref a2, .ref a3, .ref a4, .int (nI Kc.1), .int (nI r)])), (a1, .inl (cI, 13, .inl Kc.2.1)), (a2, .inl (cI, 13, .inl Kc.2.2.1)), (a3, .inl (cI, 13, .inl Kc.2.2.2.1)), (a4, .inl (cI, 13, .inl Kc.2.2.2.2)), (b0, .inr (3, [.ref b1, .ref b2])), (b1, .inl (cI, 292, .inl f)), (b2, .inl (cI, 40, .inl g))]) (po := []) (As := [.ref b0, .int (nI r), .int k]) (rest := []) ⟨hx, hb, hml, hown, hw⟩ (c_C_isSoundNext l dC dI cI cZ a0 a1 a2 a3 a4 Kc r (ce_12 heq hok) (ce_G heq hok) b0 b1 b2 f g (by omega) k) (gw_cV 3 hw mw_426 mw_428 mv_18 mw_3 mw_429 hd_C_isSoundNext ⟨Nat.le_of_ble_eq_true rfl, Nat.le_of_ble_eq_true rfl⟩) (ci := 0) rfl rfl rfl hK hP hD hS hA rfl hl.1 rfl (Nat.le_of_ble_eq_true rfl) dn_C_replay_22 ⟨Nat.zero_le _, Nat.zero_le _⟩ (fun r22 u22 H locs hc22 hP hD hS => ?_)
        have hP : va_P (dC, dI) vwCl [(a0, .inr (0, [.ref a1, .ref a2, .ref a3, .ref a4, .int (nI Kc.1), .int (nI r)])), (a1, .inl (cI, 13, .inl Kc.2.1)), (a2, .inl (cI, 13, .inl Kc.2.2.1)), (a3, .inl (cI, 13, .inl Kc.2.2.2.1)), (a4, .inl (cI, 13, .inl Kc.2.2.2.2)), (b0, .inr (3, [.ref b1, .ref b2])), (b1, .inl (cI, 292, .inl f)), (b2, .inl (cI, 40, .inl g))] H := hP
        have hD : va_D A [(a0, .inr (0, [.ref a1, .ref a2, .ref a3, .ref a4, .int (nI Kc.1), .int (nI r)])), (a1, .inl (cI, 13, .inl Kc.2.1)), (a2, .inl (cI, 13, .inl Kc.2.2.1)), (a3, .inl (cI, 13, .inl Kc.2.2.2.1)), (a4, .inl (cI, 13, .inl Kc.2.2.2.2)), (b0, .inr (3, [.ref b1, .ref b2])), (b1, .inl (cI, 292, .inl f)), (b2, .inl (cI, 40, .inl g))] := hD
        rcases hc22 with ⟨rfl, hm22⟩ | ⟨rfl, hm22⟩
        · skip
          have hs : ct_ok f k r := (ct_okK_iff heq (ce_12 heq hok)).1 hm22
          refine lv_if_ne (tgt := 29) hx hb dn_C_replay_25 (by decide) (fun _ => ?_) (fun h => absurd h (by decide))
          refine lv_aload_n hx hb dn_C_replay_29 rfl (lv_at hl 0 rfl) ?_
          refine lv_aload_n hx hb dn_C_replay_30 rfl (lv_at hl 1 rfl) ?_
          refine lv_iload_n hx hb dn_C_replay_31 rfl (lv_at hl 3 rfl) ?_
          refine lv_iconst (v := 0) hx hb dn_C_replay_32 (by decide) ?_
          refine gc_vi (pre := [(a0, .inr (0, [.ref a1, .ref a2, .ref a3, .ref a4, .int (nI Kc.1), .int (nI r)])), (a1, .inl (cI, 13, .inl Kc.2.1)), (a2, .inl (cI, 13, .inl Kc.2.2.1)), (a3, .inl (cI, 13, .inl Kc.2.2.2.1)), (a4, .inl (cI, 13, .inl Kc.2.2.2.2))]) (wc := [(b0, .inr (3, [.ref b1, .ref b2])), (b1, .inl (cI, 292, .inl f)), (b2, .inl (cI, 40, .inl g))]) (po := []) (As := [.int (nI r), .int 0]) (rest := [.ref a0]) ⟨hx, hb, hml, hown, hw⟩ (c_G_field0 l dC dI cI cZ b0 b1 b2 f g r (by omega)) (gw_cV 2 hw mw_438 mw_266 mw_267 mw_2 mw_268 hd_G_field ⟨Nat.le_of_ble_eq_true rfl, Nat.le_of_ble_eq_true rfl⟩) (ci := 3) rfl rfl rfl hK hP hD hS hA rfl hl.1 rfl (Nat.le_of_ble_eq_true rfl) dn_C_replay_33 ⟨Nat.zero_le _, Nat.zero_le _⟩ (fun r33 u33 H locs hc33 hP hD hS => ?_)
          subst hc33
          have hP : va_P (dC, dI) vwCl [(a0, .inr (0, [.ref a1, .ref a2, .ref a3, .ref a4, .int (nI Kc.1), .int (nI r)])), (a1, .inl (cI, 13, .inl Kc.2.1)), (a2, .inl (cI, 13, .inl Kc.2.2.1)), (a3, .inl (cI, 13, .inl Kc.2.2.2.1)), (a4, .inl (cI, 13, .inl Kc.2.2.2.2)), (b0, .inr (3, [.ref b1, .ref b2])), (b1, .inl (cI, 292, .inl f)), (b2, .inl (cI, 40, .inl g))] H := hP
          have hD : va_D A [(a0, .inr (0, [.ref a1, .ref a2, .ref a3, .ref a4, .int (nI Kc.1), .int (nI r)])), (a1, .inl (cI, 13, .inl Kc.2.1)), (a2, .inl (cI, 13, .inl Kc.2.2.1)), (a3, .inl (cI, 13, .inl Kc.2.2.2.1)), (a4, .inl (cI, 13, .inl Kc.2.2.2.2)), (b0, .inr (3, [.ref b1, .ref b2])), (b1, .inl (cI, 292, .inl f)), (b2, .inl (cI, 40, .inl g))] := hD
          refine lv_aload_n hx hb dn_C_replay_36 rfl (lv_at hl 1 rfl) ?_
          refine lv_iload_n hx hb dn_C_replay_37 rfl (lv_at hl 3 rfl) ?_
          refine lv_iconst (v := 1) hx hb dn_C_replay_38 (by decide) ?_
          refine gc_vi (pre := [(a0, .inr (0, [.ref a1, .ref a2, .ref a3, .ref a4, .int (nI Kc.1), .int (nI r)])), (a1, .inl (cI, 13, .inl Kc.2.1)), (a2, .inl (cI, 13, .inl Kc.2.2.1)), (a3, .inl (cI, 13, .inl Kc.2.2.2.1)), (a4, .inl (cI, 13, .inl Kc.2.2.2.2))]) (wc := [(b0, .inr (3, [.ref b1, .ref b2])), (b1, .inl (cI, 292, .inl f)), (b2, .inl (cI, 40, .inl g))]) (po := []) (As := [.int (nI r), .int 1]) (rest := [.int (f (7 * r)), .ref a0]) ⟨hx, hb, hml, hown, hw⟩ (c_G_field l dC dI cI cZ b0 b1 b2 f g r 1 (by omega)) (gw_cV 2 hw mw_438 mw_266 mw_267 mw_2 mw_268 hd_G_field ⟨Nat.le_of_ble_eq_true rfl, Nat.le_of_ble_eq_true rfl⟩) (ci := 3) rfl rfl rfl hK hP hD hS hA rfl hl.1 rfl (Nat.le_of_ble_eq_true rfl) dn_C_replay_39 ⟨Nat.zero_le _, Nat.zero_le _⟩ (fun r39 u39 H locs hc39 hP hD hS => ?_)
          subst hc39
          have hP : va_P (dC, dI) vwCl [(a0, .inr (0, [.ref a1, .ref a2, .ref a3, .ref a4, .int (nI Kc.1), .int (nI r)])), (a1, .inl (cI, 13, .inl Kc.2.1)), (a2, .inl (cI, 13, .inl Kc.2.2.1)), (a3, .inl (cI, 13, .inl Kc.2.2.2.1)), (a4, .inl (cI, 13, .inl Kc.2.2.2.2)), (b0, .inr (3, [.ref b1, .ref b2])), (b1, .inl (cI, 292, .inl f)), (b2, .inl (cI, 40, .inl g))] H := hP
          have hD : va_D A [(a0, .inr (0, [.ref a1, .ref a2, .ref a3, .ref a4, .int (nI Kc.1), .int (nI r)])), (a1, .inl (cI, 13, .inl Kc.2.1)), (a2, .inl (cI, 13, .inl Kc.2.2.1)), (a3, .inl (cI, 13, .inl Kc.2.2.2.1)), (a4, .inl (cI, 13, .inl Kc.2.2.2.2)), (b0, .inr (3, [.ref b1, .ref b2])), (b1, .inl (cI, 292, .inl f)), (b2, .inl (cI, 40, .inl g))] := hD
          refine lv_aload_n hx hb dn_C_replay_42 rfl (lv_at hl 1 rfl) ?_
          refine lv_iload_n hx hb dn_C_replay_43 rfl (lv_at hl 3 rfl) ?_
          refine lv_iconst (v := 2) hx hb dn_C_replay_44 (by decide) ?_
          refine gc_vi (pre := [(a0, .inr (0, [.ref a1, .ref a2, .ref a3, .ref a4, .int (nI Kc.1), .int (nI r)])), (a1, .inl (cI, 13, .inl Kc.2.1)), (a2, .inl (cI, 13, .inl Kc.2.2.1)), (a3, .inl (cI, 13, .inl Kc.2.2.2.1)), (a4, .inl (cI, 13, .inl Kc.2.2.2.2))]) (wc := [(b0, .inr (3, [.ref b1, .ref b2])), (b1, .inl (cI, 292, .inl f)), (b2, .inl (cI, 40, .inl g))]) (po := []) (As := [.int (nI r), .int 2]) (rest := [.int (f (7 * r + 1)), .int (f (7 * r)), .ref a0]) ⟨hx, hb, hml, hown, hw⟩ (c_G_field l dC dI cI cZ b0 b1 b2 f g r 2 (by omega)) (gw_cV 2 hw mw_438 mw_266 mw_267 mw_2 mw_268 hd_G_field ⟨Nat.le_of_ble_eq_true rfl, Nat.le_of_ble_eq_true rfl⟩) (ci := 3) rfl rfl rfl hK hP hD hS hA rfl hl.1 rfl (Nat.le_of_ble_eq_true rfl) dn_C_replay_45 ⟨Nat.zero_le _, Nat.zero_le _⟩ (fun r45 u45 H locs hc45 hP hD hS => ?_)
          subst hc45
          have hP : va_P (dC, dI) vwCl [(a0, .inr (0, [.ref a1, .ref a2, .ref a3, .ref a4, .int (nI Kc.1), .int (nI r)])), (a1, .inl (cI, 13, .inl Kc.2.1)), (a2, .inl (cI, 13, .inl Kc.2.2.1)), (a3, .inl (cI, 13, .inl Kc.2.2.2.1)), (a4, .inl (cI, 13, .inl Kc.2.2.2.2)), (b0, .inr (3, [.ref b1, .ref b2])), (b1, .inl (cI, 292, .inl f)), (b2, .inl (cI, 40, .inl g))] H := hP
          have hD : va_D A [(a0, .inr (0, [.ref a1, .ref a2, .ref a3, .ref a4, .int (nI Kc.1), .int (nI r)])), (a1, .inl (cI, 13, .inl Kc.2.1)), (a2, .inl (cI, 13, .inl Kc.2.2.1)), (a3, .inl (cI, 13, .inl Kc.2.2.2.1)), (a4, .inl (cI, 13, .inl Kc.2.2.2.2)), (b0, .inr (3, [.ref b1, .ref b2])), (b1, .inl (cI, 292, .inl f)), (b2, .inl (cI, 40, .inl g))] := hD
          refine gc_vv (pre := []) (wc := [(a0, .inr (0, [.ref a1, .ref a2, .ref a3, .ref a4, .int (nI Kc.1), .int (nI r)])), (a1, .inl (cI, 13, .inl Kc.2.1)), (a2, .inl (cI, 13, .inl Kc.2.2.1)), (a3, .inl (cI, 13, .inl Kc.2.2.2.1)), (a4, .inl (cI, 13, .inl Kc.2.2.2.2))]) (po := [(b0, .inr (3, [.ref b1, .ref b2])), (b1, .inl (cI, 292, .inl f)), (b2, .inl (cI, 40, .inl g))]) (As := [.int (f (7 * r)), .int (f (7 * r + 1)), .int (f (7 * r + 2))]) (rest := []) ⟨hx, hb, hml, hown, hw⟩ (c_C_enter l dC dI cI cZ a0 a1 a2 a3 a4 Kc r (ce_12 heq hok) (ce_G heq hok) (f (7 * r)) (f (7 * r + 1)) (f (7 * r + 2)) (f (7 * r + 5)) ((ce_ru heq (ce_12 heq hok) _ _ _ _).trans hs.2.2.2.2.2.2.2.2) hs.2.1 hs.2.2.1) (gw_cV 3 hw mw_445 mw_217 mw_218 mw_3 mw_219 hd_C_enter ⟨Nat.le_of_ble_eq_true rfl, Nat.le_of_ble_eq_true rfl⟩) (ci := 0) rfl rfl rfl hK hP hD hS hA rfl hl.1 rfl (Nat.le_of_ble_eq_true rfl) dn_C_replay_48 ⟨Nat.zero_le _, Nat.zero_le _⟩ (fun u48 H locs hc48 hP hD hS => ?_)
          have hP : va_P (dC, dI) vwCl [(a0, .inr (0, [.ref a1, .ref a2, .ref a3, .ref a4, .int (nI u48.1), .int (nI (r + 1))])), (a1, .inl (cI, 13, .inl u48.2.1)), (a2, .inl (cI, 13, .inl u48.2.2.1)), (a3, .inl (cI, 13, .inl u48.2.2.2.1)), (a4, .inl (cI, 13, .inl u48.2.2.2.2)), (b0, .inr (3, [.ref b1, .ref b2])), (b1, .inl (cI, 292, .inl f)), (b2, .inl (cI, 40, .inl g))] H := hP
          have hD : va_D A [(a0, .inr (0, [.ref a1, .ref a2, .ref a3, .ref a4, .int (nI u48.1), .int (nI (r + 1))])), (a1, .inl (cI, 13, .inl u48.2.1)), (a2, .inl (cI, 13, .inl u48.2.2.1)), (a3, .inl (cI, 13, .inl u48.2.2.2.1)), (a4, .inl (cI, 13, .inl u48.2.2.2.2)), (b0, .inr (3, [.ref b1, .ref b2])), (b1, .inl (cI, 292, .inl f)), (b2, .inl (cI, 40, .inl g))] := hD
          refine lv_iinc (lv' := [(3, .int (nI (r + 1))), (0, .ref a0), (1, .ref b0), (2, .int k)]) (v := (nI (r + 1))) (k := 3) hx hb dn_C_replay_51 hl rfl (nI_add r 1) (by decide) rfl (fun ls hl => ?_)
          refine lv_goto (tgt := 12) hx hb dn_C_replay_54 (by decide) ?_
          exact ih (40 - (r + 1)) (by omega) (r + 1) u48 ls H locs rfl (lv_sub hl [1, 2, 3, 0] rfl) hP hD hS (by omega) (lt_s hok hs) (by rw [hc48]; exact ce_ap heq r (ok_id hok hs) (ct_iv_n r hok).1)
        · skip
          have hs : ¬ ct_ok f k r := fun q => hm22 ((ct_okK_iff heq (ce_12 heq hok)).2 q)
          refine lv_if_ne (tgt := 29) hx hb dn_C_replay_25 (by decide) (fun h => absurd h (by decide)) (fun _ => ?_)
          exact hret (Kc, r) _ _ _ _ ⟨⟨by omega, hok, fun _ => hs⟩, heq⟩ hP hD hS dn_C_replay_28
  exact lp12 _ 0 (0, K.2.1, K.2.2.1, K.2.2.2.1, K.2.2.2.2) ls H locs rfl (lv_sub hl [1, 2, 3, 0] rfl) hP hD hS (Nat.zero_le _) (fun q h => absurd h (Nat.not_lt_zero q)) (⟨rfl, fun j h1 h2 => absurd (Nat.le_trans h1 h2) (Nat.not_succ_le_zero 0)⟩)
end
section
/-! the way down, as the class keeps it -/
def ds_nz (k : Nat) : Nat := if k < 2 then 31 else if k < 4 then 30 else if k < 8 then 29 else if k < 16 then 28 else if k < 32 then 27 else 26
theorem ds_top : ∀ c, c < 41 → 2 ≤ c → (nI (c - 1) &&& ((-2147483648 : Int32).toUInt32 >>> ((nI (ds_nz (c - 1))).toUInt32 &&& Int32.toUInt32 31)).toInt32) = nI (ds_hb c) := by decide +kernel
def ds_nx (t a c : Nat) : Nat × Nat := if t < a + ds_hb c then (a, ds_hb c) else (a + ds_hb c, c - ds_hb c)
def ds_r (t a c : Nat) : Int32 := if t < a + ds_hb c then 0 else 1
def ds_f (t a c : Nat) : Nat := if t < a + ds_hb c then a + ds_hb c else a
def ds_c (t a c : Nat) : Nat := if t < a + ds_hb c then c - ds_hb c else ds_hb c
section DSL
variable {t a c : Nat}
theorem ds_lx (h : t < a + ds_hb c) : ds_nx t a c = (a, ds_hb c) := by unfold ds_nx; rw [if_pos h]
theorem ds_lr (h : t < a + ds_hb c) : ds_r t a c = 0 := by unfold ds_r; rw [if_pos h]
theorem ds_lf (h : t < a + ds_hb c) : ds_f t a c = a + ds_hb c := by unfold ds_f; rw [if_pos h]
theorem ds_lc (h : t < a + ds_hb c) : ds_c t a c = c - ds_hb c := by unfold ds_c; rw [if_pos h]
theorem ds_rx (h : a + ds_hb c ≤ t) : ds_nx t a c = (a + ds_hb c, c - ds_hb c) := by unfold ds_nx; rw [if_neg (by omega)]
theorem ds_rr (h : a + ds_hb c ≤ t) : ds_r t a c = 1 := by unfold ds_r; rw [if_neg (by omega)]
theorem ds_rf (h : a + ds_hb c ≤ t) : ds_f t a c = a := by unfold ds_f; rw [if_neg (by omega)]
theorem ds_rc (h : a + ds_hb c ≤ t) : ds_c t a c = ds_hb c := by unfold ds_c; rw [if_neg (by omega)]
end DSL
theorem ar_s {X : Nat → Int32} {F : Nat → Int32} {s : Nat} (h : ∀ i, i < s → X i = F i) : ∀ i, i < s + 1 → upd X s (F s) i = F i := by
  intro i hi
  by_cases e : i = s
  · subst e; rw [ct_us]
  · rw [ct_un e]; exact h i (by omega)
theorem ds_rt01 (t n s : Nat) : ds_rt t n s = 0 ∨ ds_rt t n s = 1 := by
  unfold ds_rt; split
  · exact Or.inl rfl
  · exact Or.inr rfl
/-- the arrays hold the steps -/
def de_ar (t n s : Nat) (X Y Z : Nat → Int32) : Prop := (∀ i, i < s → X i = ds_rt t n i) ∧ (∀ i, i < s → Y i = nI (ds_sf t n i)) ∧ ∀ i, i < s → Z i = nI (ds_sc t n i)
theorem de_ar_s {t n s : Nat} {X Y Z : Nat → Int32} (h : de_ar t n s X Y Z) : de_ar t n (s + 1) (upd X s (ds_rt t n s)) (upd Y s (nI (ds_sf t n s))) (upd Z s (nI (ds_sc t n s))) :=
  ⟨ar_s (F := fun i => ds_rt t n i) h.1, ar_s (F := fun i => nI (ds_sf t n i)) h.2.1, ar_s (F := fun i => nI (ds_sc t n i)) h.2.2⟩
/-- the tree under digest k of a row -/
def du_f (t n st b k : Nat) : Nat := if st + b - 1 - k < st then ds_sf t n (st + b - 1 - k) else (ds_at t n st).1
def du_c (t n st b k : Nat) : Nat := if st + b - 1 - k < st then ds_sc t n (st + b - 1 - k) else (ds_at t n st).2
theorem du_in {e : Bool} {t n st b k : Nat} (ht : t < n) (hn : n ≤ 40) (h : ds_is e t n st) : 1 ≤ du_c t n st b k ∧ du_f t n st b k + du_c t n st b k ≤ n := by
  unfold du_c du_f
  by_cases q : st + b - 1 - k < st
  · rw [if_pos q, if_pos q]; exact ds_side ht hn h.1 q
  · rw [if_neg q, if_neg q]
    obtain ⟨a1, a2, a3, -⟩ := ds_iv ht hn st h.1
    omega
/-- is the foot shown: always in a path; in a bridge if it isn't the first -/
def ds_b (a : Nat) : Nat := if a = 0 then 0 else 1
theorem ds_b_le (a : Nat) : ds_b a ≤ 1 := by unfold ds_b; split <;> omega
end
section
theorem dn_J_numberOfLeadingZeros_0 : decode cn_J_numberOfLeadingZeros 0 = .ok (.iload_n 0, 1) := by decide +kernel
theorem dn_J_numberOfLeadingZeros_1 : decode cn_J_numberOfLeadingZeros 1 = .ok (.ifCond .gt 14, 3) := by decide +kernel
theorem dn_J_numberOfLeadingZeros_4 : decode cn_J_numberOfLeadingZeros 4 = .ok (.iload_n 0, 1) := by decide +kernel
theorem dn_J_numberOfLeadingZeros_5 : decode cn_J_numberOfLeadingZeros 5 = .ok (.ifCond .ne 8, 3) := by decide +kernel
theorem dn_J_numberOfLeadingZeros_8 : decode cn_J_numberOfLeadingZeros 8 = .ok (.bipush 32, 2) := by decide +kernel
theorem dn_J_numberOfLeadingZeros_10 : decode cn_J_numberOfLeadingZeros 10 = .ok (.goto 4, 3) := by decide +kernel
theorem dn_J_numberOfLeadingZeros_13 : decode cn_J_numberOfLeadingZeros 13 = .ok (.iconst 0, 1) := by decide +kernel
theorem dn_J_numberOfLeadingZeros_14 : decode cn_J_numberOfLeadingZeros 14 = .ok (.ireturn, 1) := by decide +kernel
theorem dn_J_numberOfLeadingZeros_15 : decode cn_J_numberOfLeadingZeros 15 = .ok (.bipush 31, 2) := by decide +kernel
theorem dn_J_numberOfLeadingZeros_17 : decode cn_J_numberOfLeadingZeros 17 = .ok (.istore_n 1, 1) := by decide +kernel
theorem dn_J_numberOfLeadingZeros_18 : decode cn_J_numberOfLeadingZeros 18 = .ok (.iload_n 0, 1) := by decide +kernel
theorem dn_J_numberOfLeadingZeros_19 : decode cn_J_numberOfLeadingZeros 19 = .ok (.ldc_w 264, 3) := by decide +kernel
theorem dn_J_numberOfLeadingZeros_22 : decode cn_J_numberOfLeadingZeros 22 = .ok (.if_icmp .lt 11, 3) := by decide +kernel
theorem dn_J_numberOfLeadingZeros_25 : decode cn_J_numberOfLeadingZeros 25 = .ok (.iinc 1 (-16), 3) := by decide +kernel
theorem dn_J_numberOfLeadingZeros_28 : decode cn_J_numberOfLeadingZeros 28 = .ok (.iload_n 0, 1) := by decide +kernel
theorem dn_J_numberOfLeadingZeros_29 : decode cn_J_numberOfLeadingZeros 29 = .ok (.bipush 16, 2) := by decide +kernel
theorem dn_J_numberOfLeadingZeros_31 : decode cn_J_numberOfLeadingZeros 31 = .ok (.iushr, 1) := by decide +kernel
theorem dn_J_numberOfLeadingZeros_32 : decode cn_J_numberOfLeadingZeros 32 = .ok (.istore_n 0, 1) := by decide +kernel
theorem dn_J_numberOfLeadingZeros_33 : decode cn_J_numberOfLeadingZeros 33 = .ok (.iload_n 0, 1) := by decide +kernel
theorem dn_J_numberOfLeadingZeros_34 : decode cn_J_numberOfLeadingZeros 34 = .ok (.sipush 256, 3) := by decide +kernel
theorem dn_J_numberOfLeadingZeros_37 : decode cn_J_numberOfLeadingZeros 37 = .ok (.if_icmp .lt 11, 3) := by decide +kernel
theorem dn_J_numberOfLeadingZeros_40 : decode cn_J_numberOfLeadingZeros 40 = .ok (.iinc 1 (-8), 3) := by decide +kernel
theorem dn_J_numberOfLeadingZeros_43 : decode cn_J_numberOfLeadingZeros 43 = .ok (.iload_n 0, 1) := by decide +kernel
theorem dn_J_numberOfLeadingZeros_44 : decode cn_J_numberOfLeadingZeros 44 = .ok (.bipush 8, 2) := by decide +kernel
theorem dn_J_numberOfLeadingZeros_46 : decode cn_J_numberOfLeadingZeros 46 = .ok (.iushr, 1) := by decide +kernel
theorem dn_J_numberOfLeadingZeros_47 : decode cn_J_numberOfLeadingZeros 47 = .ok (.istore_n 0, 1) := by decide +kernel
theorem dn_J_numberOfLeadingZeros_48 : decode cn_J_numberOfLeadingZeros 48 = .ok (.iload_n 0, 1) := by decide +kernel
theorem dn_J_numberOfLeadingZeros_49 : decode cn_J_numberOfLeadingZeros 49 = .ok (.bipush 16, 2) := by decide +kernel
theorem dn_J_numberOfLeadingZeros_51 : decode cn_J_numberOfLeadingZeros 51 = .ok (.if_icmp .lt 10, 3) := by decide +kernel
theorem dn_J_numberOfLeadingZeros_54 : decode cn_J_numberOfLeadingZeros 54 = .ok (.iinc 1 (-4), 3) := by decide +kernel
theorem dn_J_numberOfLeadingZeros_57 : decode cn_J_numberOfLeadingZeros 57 = .ok (.iload_n 0, 1) := by decide +kernel
theorem dn_J_numberOfLeadingZeros_58 : decode cn_J_numberOfLeadingZeros 58 = .ok (.iconst 4, 1) := by decide +kernel
theorem dn_J_numberOfLeadingZeros_59 : decode cn_J_numberOfLeadingZeros 59 = .ok (.iushr, 1) := by decide +kernel
theorem dn_J_numberOfLeadingZeros_60 : decode cn_J_numberOfLeadingZeros 60 = .ok (.istore_n 0, 1) := by decide +kernel
theorem dn_J_numberOfLeadingZeros_61 : decode cn_J_numberOfLeadingZeros 61 = .ok (.iload_n 0, 1) := by decide +kernel
theorem dn_J_numberOfLeadingZeros_62 : decode cn_J_numberOfLeadingZeros 62 = .ok (.iconst 4, 1) := by decide +kernel
theorem dn_J_numberOfLeadingZeros_63 : decode cn_J_numberOfLeadingZeros 63 = .ok (.if_icmp .lt 10, 3) := by decide +kernel
theorem dn_J_numberOfLeadingZeros_66 : decode cn_J_numberOfLeadingZeros 66 = .ok (.iinc 1 (-2), 3) := by decide +kernel
theorem dn_J_numberOfLeadingZeros_69 : decode cn_J_numberOfLeadingZeros 69 = .ok (.iload_n 0, 1) := by decide +kernel
theorem dn_J_numberOfLeadingZeros_70 : decode cn_J_numberOfLeadingZeros 70 = .ok (.iconst 2, 1) := by decide +kernel
theorem dn_J_numberOfLeadingZeros_71 : decode cn_J_numberOfLeadingZeros 71 = .ok (.iushr, 1) := by decide +kernel
theorem dn_J_numberOfLeadingZeros_72 : decode cn_J_numberOfLeadingZeros 72 = .ok (.istore_n 0, 1) := by decide +kernel
theorem dn_J_numberOfLeadingZeros_73 : decode cn_J_numberOfLeadingZeros 73 = .ok (.iload_n 1, 1) := by decide +kernel
theorem dn_J_numberOfLeadingZeros_74 : decode cn_J_numberOfLeadingZeros 74 = .ok (.iload_n 0, 1) := by decide +kernel
theorem dn_J_numberOfLeadingZeros_75 : decode cn_J_numberOfLeadingZeros 75 = .ok (.iconst 1, 1) := by decide +kernel
theorem dn_J_numberOfLeadingZeros_76 : decode cn_J_numberOfLeadingZeros 76 = .ok (.iushr, 1) := by decide +kernel
theorem dn_J_numberOfLeadingZeros_77 : decode cn_J_numberOfLeadingZeros 77 = .ok (.isub, 1) := by decide +kernel
theorem dn_J_numberOfLeadingZeros_78 : decode cn_J_numberOfLeadingZeros 78 = .ok (.ireturn, 1) := by decide +kernel
theorem dn_J_highestOneBit_0 : decode cn_J_highestOneBit 0 = .ok (.iload_n 0, 1) := by decide +kernel
theorem dn_J_highestOneBit_1 : decode cn_J_highestOneBit 1 = .ok (.ldc 127, 2) := by decide +kernel
theorem dn_J_highestOneBit_3 : decode cn_J_highestOneBit 3 = .ok (.iload_n 0, 1) := by decide +kernel
theorem dn_J_highestOneBit_4 : decode cn_J_highestOneBit 4 = .ok (.invokestatic 51, 3) := by decide +kernel
theorem dn_J_highestOneBit_7 : decode cn_J_highestOneBit 7 = .ok (.iushr, 1) := by decide +kernel
theorem dn_J_highestOneBit_8 : decode cn_J_highestOneBit 8 = .ok (.iand, 1) := by decide +kernel
theorem dn_J_highestOneBit_9 : decode cn_J_highestOneBit 9 = .ok (.ireturn, 1) := by decide +kernel
theorem dn_E_stepTowards_0 : decode cn_E_stepTowards 0 = .ok (.aload_n 0, 1) := by decide +kernel
theorem dn_E_stepTowards_1 : decode cn_E_stepTowards 1 = .ok (.getfield 27, 3) := by decide +kernel
theorem dn_E_stepTowards_4 : decode cn_E_stepTowards 4 = .ok (.iconst 1, 1) := by decide +kernel
theorem dn_E_stepTowards_5 : decode cn_E_stepTowards 5 = .ok (.isub, 1) := by decide +kernel
theorem dn_E_stepTowards_6 : decode cn_E_stepTowards 6 = .ok (.invokestatic 42, 3) := by decide +kernel
theorem dn_E_stepTowards_9 : decode cn_E_stepTowards 9 = .ok (.istore_n 3, 1) := by decide +kernel
theorem dn_E_stepTowards_10 : decode cn_E_stepTowards 10 = .ok (.iload_n 1, 1) := by decide +kernel
theorem dn_E_stepTowards_11 : decode cn_E_stepTowards 11 = .ok (.aload_n 0, 1) := by decide +kernel
theorem dn_E_stepTowards_12 : decode cn_E_stepTowards 12 = .ok (.getfield 24, 3) := by decide +kernel
theorem dn_E_stepTowards_15 : decode cn_E_stepTowards 15 = .ok (.iload_n 3, 1) := by decide +kernel
theorem dn_E_stepTowards_16 : decode cn_E_stepTowards 16 = .ok (.iadd, 1) := by decide +kernel
theorem dn_E_stepTowards_17 : decode cn_E_stepTowards 17 = .ok (.if_icmp .lt 7, 3) := by decide +kernel
theorem dn_E_stepTowards_20 : decode cn_E_stepTowards 20 = .ok (.iconst 1, 1) := by decide +kernel
theorem dn_E_stepTowards_21 : decode cn_E_stepTowards 21 = .ok (.goto 4, 3) := by decide +kernel
theorem dn_E_stepTowards_24 : decode cn_E_stepTowards 24 = .ok (.iconst 0, 1) := by decide +kernel
theorem dn_E_stepTowards_25 : decode cn_E_stepTowards 25 = .ok (.istore 4, 2) := by decide +kernel
theorem dn_E_stepTowards_27 : decode cn_E_stepTowards 27 = .ok (.aload_n 0, 1) := by decide +kernel
theorem dn_E_stepTowards_28 : decode cn_E_stepTowards 28 = .ok (.getfield 9, 3) := by decide +kernel
theorem dn_E_stepTowards_31 : decode cn_E_stepTowards 31 = .ok (.iload_n 2, 1) := by decide +kernel
theorem dn_E_stepTowards_32 : decode cn_E_stepTowards 32 = .ok (.iload 4, 2) := by decide +kernel
theorem dn_E_stepTowards_34 : decode cn_E_stepTowards 34 = .ok (.bastore, 1) := by decide +kernel
theorem dn_E_stepTowards_35 : decode cn_E_stepTowards 35 = .ok (.aload_n 0, 1) := by decide +kernel
theorem dn_E_stepTowards_36 : decode cn_E_stepTowards 36 = .ok (.getfield 13, 3) := by decide +kernel
theorem dn_E_stepTowards_39 : decode cn_E_stepTowards 39 = .ok (.iload_n 2, 1) := by decide +kernel
theorem dn_E_stepTowards_40 : decode cn_E_stepTowards 40 = .ok (.iload 4, 2) := by decide +kernel
theorem dn_E_stepTowards_42 : decode cn_E_stepTowards 42 = .ok (.ifCond .eq 10, 3) := by decide +kernel
theorem dn_E_stepTowards_45 : decode cn_E_stepTowards 45 = .ok (.aload_n 0, 1) := by decide +kernel
theorem dn_E_stepTowards_46 : decode cn_E_stepTowards 46 = .ok (.getfield 24, 3) := by decide +kernel
theorem dn_E_stepTowards_49 : decode cn_E_stepTowards 49 = .ok (.goto 9, 3) := by decide +kernel
theorem dn_E_stepTowards_52 : decode cn_E_stepTowards 52 = .ok (.aload_n 0, 1) := by decide +kernel
theorem dn_E_stepTowards_53 : decode cn_E_stepTowards 53 = .ok (.getfield 24, 3) := by decide +kernel
theorem dn_E_stepTowards_56 : decode cn_E_stepTowards 56 = .ok (.iload_n 3, 1) := by decide +kernel
theorem dn_E_stepTowards_57 : decode cn_E_stepTowards 57 = .ok (.iadd, 1) := by decide +kernel
theorem dn_E_stepTowards_58 : decode cn_E_stepTowards 58 = .ok (.iastore, 1) := by decide +kernel
theorem dn_E_stepTowards_59 : decode cn_E_stepTowards 59 = .ok (.aload_n 0, 1) := by decide +kernel
theorem dn_E_stepTowards_60 : decode cn_E_stepTowards 60 = .ok (.getfield 17, 3) := by decide +kernel
theorem dn_E_stepTowards_63 : decode cn_E_stepTowards 63 = .ok (.iload_n 2, 1) := by decide +kernel
theorem dn_E_stepTowards_64 : decode cn_E_stepTowards 64 = .ok (.iload 4, 2) := by decide +kernel
theorem dn_E_stepTowards_66 : decode cn_E_stepTowards 66 = .ok (.ifCond .eq 7, 3) := by decide +kernel
theorem dn_E_stepTowards_69 : decode cn_E_stepTowards 69 = .ok (.iload_n 3, 1) := by decide +kernel
theorem dn_E_stepTowards_70 : decode cn_E_stepTowards 70 = .ok (.goto 9, 3) := by decide +kernel
theorem dn_E_stepTowards_73 : decode cn_E_stepTowards 73 = .ok (.aload_n 0, 1) := by decide +kernel
theorem dn_E_stepTowards_74 : decode cn_E_stepTowards 74 = .ok (.getfield 27, 3) := by decide +kernel
theorem dn_E_stepTowards_77 : decode cn_E_stepTowards 77 = .ok (.iload_n 3, 1) := by decide +kernel
theorem dn_E_stepTowards_78 : decode cn_E_stepTowards 78 = .ok (.isub, 1) := by decide +kernel
theorem dn_E_stepTowards_79 : decode cn_E_stepTowards 79 = .ok (.iastore, 1) := by decide +kernel
theorem dn_E_stepTowards_80 : decode cn_E_stepTowards 80 = .ok (.aload_n 0, 1) := by decide +kernel
theorem dn_E_stepTowards_81 : decode cn_E_stepTowards 81 = .ok (.iload 4, 2) := by decide +kernel
theorem dn_E_stepTowards_83 : decode cn_E_stepTowards 83 = .ok (.ifCond .eq 12, 3) := by decide +kernel
theorem dn_E_stepTowards_86 : decode cn_E_stepTowards 86 = .ok (.aload_n 0, 1) := by decide +kernel
theorem dn_E_stepTowards_87 : decode cn_E_stepTowards 87 = .ok (.getfield 24, 3) := by decide +kernel
theorem dn_E_stepTowards_90 : decode cn_E_stepTowards 90 = .ok (.iload_n 3, 1) := by decide +kernel
theorem dn_E_stepTowards_91 : decode cn_E_stepTowards 91 = .ok (.iadd, 1) := by decide +kernel
theorem dn_E_stepTowards_92 : decode cn_E_stepTowards 92 = .ok (.goto 7, 3) := by decide +kernel
theorem dn_E_stepTowards_95 : decode cn_E_stepTowards 95 = .ok (.aload_n 0, 1) := by decide +kernel
theorem dn_E_stepTowards_96 : decode cn_E_stepTowards 96 = .ok (.getfield 24, 3) := by decide +kernel
theorem dn_E_stepTowards_99 : decode cn_E_stepTowards 99 = .ok (.putfield 24, 3) := by decide +kernel
theorem dn_E_stepTowards_102 : decode cn_E_stepTowards 102 = .ok (.aload_n 0, 1) := by decide +kernel
theorem dn_E_stepTowards_103 : decode cn_E_stepTowards 103 = .ok (.iload 4, 2) := by decide +kernel
theorem dn_E_stepTowards_105 : decode cn_E_stepTowards 105 = .ok (.ifCond .eq 12, 3) := by decide +kernel
theorem dn_E_stepTowards_108 : decode cn_E_stepTowards 108 = .ok (.aload_n 0, 1) := by decide +kernel
theorem dn_E_stepTowards_109 : decode cn_E_stepTowards 109 = .ok (.getfield 27, 3) := by decide +kernel
theorem dn_E_stepTowards_112 : decode cn_E_stepTowards 112 = .ok (.iload_n 3, 1) := by decide +kernel
theorem dn_E_stepTowards_113 : decode cn_E_stepTowards 113 = .ok (.isub, 1) := by decide +kernel
theorem dn_E_stepTowards_114 : decode cn_E_stepTowards 114 = .ok (.goto 4, 3) := by decide +kernel
theorem dn_E_stepTowards_117 : decode cn_E_stepTowards 117 = .ok (.iload_n 3, 1) := by decide +kernel
theorem dn_E_stepTowards_118 : decode cn_E_stepTowards 118 = .ok (.putfield 27, 3) := by decide +kernel
theorem dn_E_stepTowards_121 : decode cn_E_stepTowards 121 = .ok (.return_, 1) := by decide +kernel
theorem dn_E_goDown_0 : decode cn_E_goDown 0 = .ok (.aload_n 0, 1) := by decide +kernel
theorem dn_E_goDown_1 : decode cn_E_goDown 1 = .ok (.iconst 0, 1) := by decide +kernel
theorem dn_E_goDown_2 : decode cn_E_goDown 2 = .ok (.putfield 20, 3) := by decide +kernel
theorem dn_E_goDown_5 : decode cn_E_goDown 5 = .ok (.aload_n 0, 1) := by decide +kernel
theorem dn_E_goDown_6 : decode cn_E_goDown 6 = .ok (.iconst 0, 1) := by decide +kernel
theorem dn_E_goDown_7 : decode cn_E_goDown 7 = .ok (.putfield 24, 3) := by decide +kernel
theorem dn_E_goDown_10 : decode cn_E_goDown 10 = .ok (.aload_n 0, 1) := by decide +kernel
theorem dn_E_goDown_11 : decode cn_E_goDown 11 = .ok (.iload_n 2, 1) := by decide +kernel
theorem dn_E_goDown_12 : decode cn_E_goDown 12 = .ok (.putfield 27, 3) := by decide +kernel
theorem dn_E_goDown_15 : decode cn_E_goDown 15 = .ok (.iconst 0, 1) := by decide +kernel
theorem dn_E_goDown_16 : decode cn_E_goDown 16 = .ok (.istore 4, 2) := by decide +kernel
theorem dn_E_goDown_18 : decode cn_E_goDown 18 = .ok (.iload 4, 2) := by decide +kernel
theorem dn_E_goDown_20 : decode cn_E_goDown 20 = .ok (.bipush 6, 2) := by decide +kernel
theorem dn_E_goDown_22 : decode cn_E_goDown 22 = .ok (.if_icmp .ge 66, 3) := by decide +kernel
theorem dn_E_goDown_25 : decode cn_E_goDown 25 = .ok (.iload_n 3, 1) := by decide +kernel
theorem dn_E_goDown_26 : decode cn_E_goDown 26 = .ok (.ifCond .eq 22, 3) := by decide +kernel
theorem dn_E_goDown_29 : decode cn_E_goDown 29 = .ok (.iload_n 1, 1) := by decide +kernel
theorem dn_E_goDown_30 : decode cn_E_goDown 30 = .ok (.aload_n 0, 1) := by decide +kernel
theorem dn_E_goDown_31 : decode cn_E_goDown 31 = .ok (.getfield 24, 3) := by decide +kernel
theorem dn_E_goDown_34 : decode cn_E_goDown 34 = .ok (.aload_n 0, 1) := by decide +kernel
theorem dn_E_goDown_35 : decode cn_E_goDown 35 = .ok (.getfield 27, 3) := by decide +kernel
theorem dn_E_goDown_38 : decode cn_E_goDown 38 = .ok (.iadd, 1) := by decide +kernel
theorem dn_E_goDown_39 : decode cn_E_goDown 39 = .ok (.iconst 1, 1) := by decide +kernel
theorem dn_E_goDown_40 : decode cn_E_goDown 40 = .ok (.isub, 1) := by decide +kernel
theorem dn_E_goDown_41 : decode cn_E_goDown 41 = .ok (.if_icmp .ne 7, 3) := by decide +kernel
theorem dn_E_goDown_44 : decode cn_E_goDown 44 = .ok (.iconst 1, 1) := by decide +kernel
theorem dn_E_goDown_45 : decode cn_E_goDown 45 = .ok (.goto 4, 3) := by decide +kernel
theorem dn_E_goDown_48 : decode cn_E_goDown 48 = .ok (.iconst 0, 1) := by decide +kernel
theorem dn_E_goDown_49 : decode cn_E_goDown 49 = .ok (.istore 5, 2) := by decide +kernel
theorem dn_E_goDown_51 : decode cn_E_goDown 51 = .ok (.aload_n 0, 1) := by decide +kernel
theorem dn_E_goDown_52 : decode cn_E_goDown 52 = .ok (.getfield 27, 3) := by decide +kernel
theorem dn_E_goDown_55 : decode cn_E_goDown 55 = .ok (.iconst 1, 1) := by decide +kernel
theorem dn_E_goDown_56 : decode cn_E_goDown 56 = .ok (.if_icmp .le 8, 3) := by decide +kernel
theorem dn_E_goDown_59 : decode cn_E_goDown 59 = .ok (.iload 5, 2) := by decide +kernel
theorem dn_E_goDown_61 : decode cn_E_goDown 61 = .ok (.ifCond .eq 4, 3) := by decide +kernel
theorem dn_E_goDown_64 : decode cn_E_goDown 64 = .ok (.return_, 1) := by decide +kernel
theorem dn_E_goDown_65 : decode cn_E_goDown 65 = .ok (.aload_n 0, 1) := by decide +kernel
theorem dn_E_goDown_66 : decode cn_E_goDown 66 = .ok (.iload_n 1, 1) := by decide +kernel
theorem dn_E_goDown_67 : decode cn_E_goDown 67 = .ok (.iload 4, 2) := by decide +kernel
theorem dn_E_goDown_69 : decode cn_E_goDown 69 = .ok (.invokevirtual 38, 3) := by decide +kernel
theorem dn_E_goDown_72 : decode cn_E_goDown 72 = .ok (.aload_n 0, 1) := by decide +kernel
theorem dn_E_goDown_73 : decode cn_E_goDown 73 = .ok (.dup, 1) := by decide +kernel
theorem dn_E_goDown_74 : decode cn_E_goDown 74 = .ok (.getfield 20, 3) := by decide +kernel
theorem dn_E_goDown_77 : decode cn_E_goDown 77 = .ok (.iconst 1, 1) := by decide +kernel
theorem dn_E_goDown_78 : decode cn_E_goDown 78 = .ok (.iadd, 1) := by decide +kernel
theorem dn_E_goDown_79 : decode cn_E_goDown 79 = .ok (.putfield 20, 3) := by decide +kernel
theorem dn_E_goDown_82 : decode cn_E_goDown 82 = .ok (.iinc 4 1, 3) := by decide +kernel
theorem dn_E_goDown_85 : decode cn_E_goDown 85 = .ok (.goto (-67), 3) := by decide +kernel
theorem dn_E_goDown_88 : decode cn_E_goDown 88 = .ok (.return_, 1) := by decide +kernel
theorem dn_E_toLeaf_0 : decode cn_E_toLeaf 0 = .ok (.aload_n 0, 1) := by decide +kernel
theorem dn_E_toLeaf_1 : decode cn_E_toLeaf 1 = .ok (.iload_n 1, 1) := by decide +kernel
theorem dn_E_toLeaf_2 : decode cn_E_toLeaf 2 = .ok (.iload_n 2, 1) := by decide +kernel
theorem dn_E_toLeaf_3 : decode cn_E_toLeaf 3 = .ok (.iconst 0, 1) := by decide +kernel
theorem dn_E_toLeaf_4 : decode cn_E_toLeaf 4 = .ok (.invokevirtual 34, 3) := by decide +kernel
theorem dn_E_toLeaf_7 : decode cn_E_toLeaf 7 = .ok (.aload_n 0, 1) := by decide +kernel
theorem dn_E_toLeaf_8 : decode cn_E_toLeaf 8 = .ok (.iconst 1, 1) := by decide +kernel
theorem dn_E_toLeaf_9 : decode cn_E_toLeaf 9 = .ok (.putfield 30, 3) := by decide +kernel
theorem dn_E_toLeaf_12 : decode cn_E_toLeaf 12 = .ok (.return_, 1) := by decide +kernel
theorem dn_E_toEdge_0 : decode cn_E_toEdge 0 = .ok (.aload_n 0, 1) := by decide +kernel
theorem dn_E_toEdge_1 : decode cn_E_toEdge 1 = .ok (.iload_n 1, 1) := by decide +kernel
theorem dn_E_toEdge_2 : decode cn_E_toEdge 2 = .ok (.iconst 1, 1) := by decide +kernel
theorem dn_E_toEdge_3 : decode cn_E_toEdge 3 = .ok (.isub, 1) := by decide +kernel
theorem dn_E_toEdge_4 : decode cn_E_toEdge 4 = .ok (.iload_n 2, 1) := by decide +kernel
theorem dn_E_toEdge_5 : decode cn_E_toEdge 5 = .ok (.iconst 1, 1) := by decide +kernel
theorem dn_E_toEdge_6 : decode cn_E_toEdge 6 = .ok (.invokevirtual 34, 3) := by decide +kernel
theorem dn_E_toEdge_9 : decode cn_E_toEdge 9 = .ok (.aload_n 0, 1) := by decide +kernel
theorem dn_E_toEdge_10 : decode cn_E_toEdge 10 = .ok (.aload_n 0, 1) := by decide +kernel
theorem dn_E_toEdge_11 : decode cn_E_toEdge 11 = .ok (.getfield 24, 3) := by decide +kernel
theorem dn_E_toEdge_14 : decode cn_E_toEdge 14 = .ok (.ifCond .le 7, 3) := by decide +kernel
theorem dn_E_toEdge_17 : decode cn_E_toEdge 17 = .ok (.iconst 1, 1) := by decide +kernel
theorem dn_E_toEdge_18 : decode cn_E_toEdge 18 = .ok (.goto 4, 3) := by decide +kernel
theorem dn_E_toEdge_21 : decode cn_E_toEdge 21 = .ok (.iconst 0, 1) := by decide +kernel
theorem dn_E_toEdge_22 : decode cn_E_toEdge 22 = .ok (.putfield 30, 3) := by decide +kernel
theorem dn_E_toEdge_25 : decode cn_E_toEdge 25 = .ok (.return_, 1) := by decide +kernel
theorem dn_E_showsFoot_0 : decode cn_E_showsFoot 0 = .ok (.aload_n 0, 1) := by decide +kernel
theorem dn_E_showsFoot_1 : decode cn_E_showsFoot 1 = .ok (.getfield 30, 3) := by decide +kernel
theorem dn_E_showsFoot_4 : decode cn_E_showsFoot 4 = .ok (.ireturn, 1) := by decide +kernel
theorem dn_E_digestCount_0 : decode cn_E_digestCount 0 = .ok (.aload_n 0, 1) := by decide +kernel
theorem dn_E_digestCount_1 : decode cn_E_digestCount 1 = .ok (.getfield 30, 3) := by decide +kernel
theorem dn_E_digestCount_4 : decode cn_E_digestCount 4 = .ok (.ifCond .eq 12, 3) := by decide +kernel
theorem dn_E_digestCount_7 : decode cn_E_digestCount 7 = .ok (.aload_n 0, 1) := by decide +kernel
theorem dn_E_digestCount_8 : decode cn_E_digestCount 8 = .ok (.getfield 20, 3) := by decide +kernel
theorem dn_E_digestCount_11 : decode cn_E_digestCount 11 = .ok (.iconst 1, 1) := by decide +kernel
theorem dn_E_digestCount_12 : decode cn_E_digestCount 12 = .ok (.iadd, 1) := by decide +kernel
theorem dn_E_digestCount_13 : decode cn_E_digestCount 13 = .ok (.goto 7, 3) := by decide +kernel
theorem dn_E_digestCount_16 : decode cn_E_digestCount 16 = .ok (.aload_n 0, 1) := by decide +kernel
theorem dn_E_digestCount_17 : decode cn_E_digestCount 17 = .ok (.getfield 20, 3) := by decide +kernel
theorem dn_E_digestCount_20 : decode cn_E_digestCount 20 = .ok (.ireturn, 1) := by decide +kernel
theorem dn_E_stepOf_0 : decode cn_E_stepOf 0 = .ok (.aload_n 0, 1) := by decide +kernel
theorem dn_E_stepOf_1 : decode cn_E_stepOf 1 = .ok (.invokevirtual 51, 3) := by decide +kernel
theorem dn_E_stepOf_4 : decode cn_E_stepOf 4 = .ok (.iconst 1, 1) := by decide +kernel
theorem dn_E_stepOf_5 : decode cn_E_stepOf 5 = .ok (.isub, 1) := by decide +kernel
theorem dn_E_stepOf_6 : decode cn_E_stepOf 6 = .ok (.iload_n 1, 1) := by decide +kernel
theorem dn_E_stepOf_7 : decode cn_E_stepOf 7 = .ok (.isub, 1) := by decide +kernel
theorem dn_E_stepOf_8 : decode cn_E_stepOf 8 = .ok (.ireturn, 1) := by decide +kernel
theorem dn_E_firstUnder_0 : decode cn_E_firstUnder 0 = .ok (.aload_n 0, 1) := by decide +kernel
theorem dn_E_firstUnder_1 : decode cn_E_firstUnder 1 = .ok (.iload_n 1, 1) := by decide +kernel
theorem dn_E_firstUnder_2 : decode cn_E_firstUnder 2 = .ok (.invokevirtual 48, 3) := by decide +kernel
theorem dn_E_firstUnder_5 : decode cn_E_firstUnder 5 = .ok (.istore_n 2, 1) := by decide +kernel
theorem dn_E_firstUnder_6 : decode cn_E_firstUnder 6 = .ok (.iconst 0, 1) := by decide +kernel
theorem dn_E_firstUnder_7 : decode cn_E_firstUnder 7 = .ok (.iload_n 2, 1) := by decide +kernel
theorem dn_E_firstUnder_8 : decode cn_E_firstUnder 8 = .ok (.if_icmp .gt 20, 3) := by decide +kernel
theorem dn_E_firstUnder_11 : decode cn_E_firstUnder 11 = .ok (.iload_n 2, 1) := by decide +kernel
theorem dn_E_firstUnder_12 : decode cn_E_firstUnder 12 = .ok (.aload_n 0, 1) := by decide +kernel
theorem dn_E_firstUnder_13 : decode cn_E_firstUnder 13 = .ok (.getfield 20, 3) := by decide +kernel
theorem dn_E_firstUnder_16 : decode cn_E_firstUnder 16 = .ok (.if_icmp .ge 12, 3) := by decide +kernel
theorem dn_E_firstUnder_19 : decode cn_E_firstUnder 19 = .ok (.aload_n 0, 1) := by decide +kernel
theorem dn_E_firstUnder_20 : decode cn_E_firstUnder 20 = .ok (.getfield 13, 3) := by decide +kernel
theorem dn_E_firstUnder_23 : decode cn_E_firstUnder 23 = .ok (.iload_n 2, 1) := by decide +kernel
theorem dn_E_firstUnder_24 : decode cn_E_firstUnder 24 = .ok (.iaload, 1) := by decide +kernel
theorem dn_E_firstUnder_25 : decode cn_E_firstUnder 25 = .ok (.goto 7, 3) := by decide +kernel
theorem dn_E_firstUnder_28 : decode cn_E_firstUnder 28 = .ok (.aload_n 0, 1) := by decide +kernel
theorem dn_E_firstUnder_29 : decode cn_E_firstUnder 29 = .ok (.getfield 24, 3) := by decide +kernel
theorem dn_E_firstUnder_32 : decode cn_E_firstUnder 32 = .ok (.ireturn, 1) := by decide +kernel
theorem dn_E_countUnder_0 : decode cn_E_countUnder 0 = .ok (.aload_n 0, 1) := by decide +kernel
theorem dn_E_countUnder_1 : decode cn_E_countUnder 1 = .ok (.iload_n 1, 1) := by decide +kernel
theorem dn_E_countUnder_2 : decode cn_E_countUnder 2 = .ok (.invokevirtual 48, 3) := by decide +kernel
theorem dn_E_countUnder_5 : decode cn_E_countUnder 5 = .ok (.istore_n 2, 1) := by decide +kernel
theorem dn_E_countUnder_6 : decode cn_E_countUnder 6 = .ok (.iconst 0, 1) := by decide +kernel
theorem dn_E_countUnder_7 : decode cn_E_countUnder 7 = .ok (.iload_n 2, 1) := by decide +kernel
theorem dn_E_countUnder_8 : decode cn_E_countUnder 8 = .ok (.if_icmp .gt 20, 3) := by decide +kernel
theorem dn_E_countUnder_11 : decode cn_E_countUnder 11 = .ok (.iload_n 2, 1) := by decide +kernel
theorem dn_E_countUnder_12 : decode cn_E_countUnder 12 = .ok (.aload_n 0, 1) := by decide +kernel
theorem dn_E_countUnder_13 : decode cn_E_countUnder 13 = .ok (.getfield 20, 3) := by decide +kernel
theorem dn_E_countUnder_16 : decode cn_E_countUnder 16 = .ok (.if_icmp .ge 12, 3) := by decide +kernel
theorem dn_E_countUnder_19 : decode cn_E_countUnder 19 = .ok (.aload_n 0, 1) := by decide +kernel
theorem dn_E_countUnder_20 : decode cn_E_countUnder 20 = .ok (.getfield 17, 3) := by decide +kernel
theorem dn_E_countUnder_23 : decode cn_E_countUnder 23 = .ok (.iload_n 2, 1) := by decide +kernel
theorem dn_E_countUnder_24 : decode cn_E_countUnder 24 = .ok (.iaload, 1) := by decide +kernel
theorem dn_E_countUnder_25 : decode cn_E_countUnder 25 = .ok (.goto 7, 3) := by decide +kernel
theorem dn_E_countUnder_28 : decode cn_E_countUnder 28 = .ok (.aload_n 0, 1) := by decide +kernel
theorem dn_E_countUnder_29 : decode cn_E_countUnder 29 = .ok (.getfield 27, 3) := by decide +kernel
theorem dn_E_countUnder_32 : decode cn_E_countUnder 32 = .ok (.ireturn, 1) := by decide +kernel
theorem dn_E_wentRightAbove_0 : decode cn_E_wentRightAbove 0 = .ok (.aload_n 0, 1) := by decide +kernel
theorem dn_E_wentRightAbove_1 : decode cn_E_wentRightAbove 1 = .ok (.iload_n 1, 1) := by decide +kernel
theorem dn_E_wentRightAbove_2 : decode cn_E_wentRightAbove 2 = .ok (.invokevirtual 48, 3) := by decide +kernel
theorem dn_E_wentRightAbove_5 : decode cn_E_wentRightAbove 5 = .ok (.istore_n 2, 1) := by decide +kernel
theorem dn_E_wentRightAbove_6 : decode cn_E_wentRightAbove 6 = .ok (.iconst 0, 1) := by decide +kernel
theorem dn_E_wentRightAbove_7 : decode cn_E_wentRightAbove 7 = .ok (.iload_n 2, 1) := by decide +kernel
theorem dn_E_wentRightAbove_8 : decode cn_E_wentRightAbove 8 = .ok (.if_icmp .gt 24, 3) := by decide +kernel
theorem dn_E_wentRightAbove_11 : decode cn_E_wentRightAbove 11 = .ok (.iload_n 2, 1) := by decide +kernel
theorem dn_E_wentRightAbove_12 : decode cn_E_wentRightAbove 12 = .ok (.aload_n 0, 1) := by decide +kernel
theorem dn_E_wentRightAbove_13 : decode cn_E_wentRightAbove 13 = .ok (.getfield 20, 3) := by decide +kernel
theorem dn_E_wentRightAbove_16 : decode cn_E_wentRightAbove 16 = .ok (.if_icmp .ge 16, 3) := by decide +kernel
theorem dn_E_wentRightAbove_19 : decode cn_E_wentRightAbove 19 = .ok (.aload_n 0, 1) := by decide +kernel
theorem dn_E_wentRightAbove_20 : decode cn_E_wentRightAbove 20 = .ok (.getfield 9, 3) := by decide +kernel
theorem dn_E_wentRightAbove_23 : decode cn_E_wentRightAbove 23 = .ok (.iload_n 2, 1) := by decide +kernel
theorem dn_E_wentRightAbove_24 : decode cn_E_wentRightAbove 24 = .ok (.baload, 1) := by decide +kernel
theorem dn_E_wentRightAbove_25 : decode cn_E_wentRightAbove 25 = .ok (.ifCond .eq 7, 3) := by decide +kernel
theorem dn_E_wentRightAbove_28 : decode cn_E_wentRightAbove 28 = .ok (.iconst 1, 1) := by decide +kernel
theorem dn_E_wentRightAbove_29 : decode cn_E_wentRightAbove 29 = .ok (.goto 4, 3) := by decide +kernel
theorem dn_E_wentRightAbove_32 : decode cn_E_wentRightAbove 32 = .ok (.iconst 0, 1) := by decide +kernel
theorem dn_E_wentRightAbove_33 : decode cn_E_wentRightAbove 33 = .ok (.ireturn, 1) := by decide +kernel

set_option maxRecDepth 100000 in
set_option maxHeartbeats 4000000 in
theorem c_J_numberOfLeadingZeros (l : Launch) (dC : Nat → ClassId) (dI : Nat → Nat → Nat) (cI cZ : ClassId) (k : Nat) (hk1 : 1 ≤ k) (hk : k < 40) : gc_I l yn_J_numberOfLeadingZeros (gw yn_J_numberOfLeadingZeros cn_J_numberOfLeadingZeros 2 (some .int)) (rm_ 0 0) (dC, dI) vwCl (gT cI cZ) [.int (nI k)] [] (fun r (_ : Unit) => r = nI (ds_nz k)) (fun _ => []) := by
  refine gc_I_of (cc := cn_J_numberOfLeadingZeros) (maxL := 2) (ty := .int) (by decide) rfl (Nat.le_of_ble_eq_true rfl) ?_
  intro pp ee ss mm ar be me cd A Q ls H0 H locs hx hb hml hown hts hK hP hD hS hA hl hret
  have hw : ∀ w ∈ gw_T, w.before ar ss = true := fun w h => hts w (List.mem_cons_of_mem _ h)
  have hl : lv_has ls 2 [(0, .int (nI k))] := hl
  refine lv_iload_n hx hb dn_J_numberOfLeadingZeros_0 rfl (lv_at hl 0 rfl) ?_
  refine gr_zgt (tgt := 15) hx hb k rfl (by omega) dn_J_numberOfLeadingZeros_1 (by decide) (fun h1 => ?_) (fun h1 => absurd h1 (by omega))
  refine lv_bipush (v := 31) hx hb dn_J_numberOfLeadingZeros_15 (by decide) ?_
  refine lv_istore_n (lv' := [(1, .int 31), (0, .int (nI k))]) hx hb dn_J_numberOfLeadingZeros_17 rfl hl (by decide) rfl (fun ls hl => ?_)
  refine lv_iload_n hx hb dn_J_numberOfLeadingZeros_18 rfl (lv_at hl 1 rfl) ?_
  refine lv_ldcw (v := 65536) hx hb hown (hw _ mw_340) dn_J_numberOfLeadingZeros_19 ?_
  refine gr_clt (tgt := 33) hx hb k 65536 rfl rfl (by omega) (by decide) dn_J_numberOfLeadingZeros_22 (by decide) (fun h22 => ?_) (fun h22 => absurd h22 (by omega))
  refine lv_iload_n hx hb dn_J_numberOfLeadingZeros_33 rfl (lv_at hl 1 rfl) ?_
  refine lv_sipush (v := 256) hx hb dn_J_numberOfLeadingZeros_34 (by decide) ?_
  refine gr_clt (tgt := 48) hx hb k 256 rfl rfl (by omega) (by decide) dn_J_numberOfLeadingZeros_37 (by decide) (fun h37 => ?_) (fun h37 => absurd h37 (by omega))
  refine lv_iload_n hx hb dn_J_numberOfLeadingZeros_48 rfl (lv_at hl 1 rfl) ?_
  refine lv_bipush (v := 16) hx hb dn_J_numberOfLeadingZeros_49 (by decide) ?_
  refine gr_clt (tgt := 61) hx hb k 16 rfl rfl (by omega) (by decide) dn_J_numberOfLeadingZeros_51 (by decide) (fun h51 => ?_) (fun h51 => ?_)
  · skip
    refine lv_iload_n hx hb dn_J_numberOfLeadingZeros_61 rfl (lv_at hl 1 rfl) ?_
    refine lv_iconst (v := 4) hx hb dn_J_numberOfLeadingZeros_62 (by decide) ?_
    refine gr_clt (tgt := 73) hx hb k 4 rfl rfl (by omega) (by decide) dn_J_numberOfLeadingZeros_63 (by decide) (fun h63 => ?_) (fun h63 => ?_)
    · skip
      refine lv_iload_n hx hb dn_J_numberOfLeadingZeros_73 rfl (lv_at hl 0 rfl) ?_
      refine lv_iload_n hx hb dn_J_numberOfLeadingZeros_74 rfl (lv_at hl 1 rfl) ?_
      refine lv_iconst (v := 1) hx hb dn_J_numberOfLeadingZeros_75 (by decide) ?_
      refine lv_iushr hx hb dn_J_numberOfLeadingZeros_76 rfl ?_
      refine gr_top (y := (nI (k / 2))) (pk_ushrN (by omega) 1 1 (by decide)) ?_
      refine gr_subN hx hb 31 (k / 2) rfl rfl (by omega) dn_J_numberOfLeadingZeros_77 ?_
      exact hret (nI (31 - (k / 2))) () _ _ _ _ (congrArg nI (by unfold ds_nz; (repeat' split) <;> omega)) rfl hP hD hS dn_J_numberOfLeadingZeros_78
    · skip
      refine lv_iinc (lv' := [(1, .int 29), (0, .int (nI k))]) (v := 29) (k := 0) hx hb dn_J_numberOfLeadingZeros_66 hl rfl (by decide) (by decide) rfl (fun ls hl => ?_)
      refine lv_iload_n hx hb dn_J_numberOfLeadingZeros_69 rfl (lv_at hl 1 rfl) ?_
      refine lv_iconst (v := 2) hx hb dn_J_numberOfLeadingZeros_70 (by decide) ?_
      refine lv_iushr hx hb dn_J_numberOfLeadingZeros_71 rfl ?_
      refine gr_top (y := (nI (k / 4))) (pk_ushrN (by omega) 2 2 (by decide)) ?_
      refine lv_istore_n (lv' := [(0, .int (nI (k / 4))), (1, .int 29)]) hx hb dn_J_numberOfLeadingZeros_72 rfl hl (by decide) rfl (fun ls hl => ?_)
      refine lv_iload_n hx hb dn_J_numberOfLeadingZeros_73 rfl (lv_at hl 1 rfl) ?_
      refine lv_iload_n hx hb dn_J_numberOfLeadingZeros_74 rfl (lv_at hl 0 rfl) ?_
      refine lv_iconst (v := 1) hx hb dn_J_numberOfLeadingZeros_75 (by decide) ?_
      refine lv_iushr hx hb dn_J_numberOfLeadingZeros_76 rfl ?_
      refine gr_top (y := (nI ((k / 4) / 2))) (pk_ushrN (by omega) 1 1 (by decide)) ?_
      refine gr_subN hx hb 29 ((k / 4) / 2) rfl rfl (by omega) dn_J_numberOfLeadingZeros_77 ?_
      exact hret (nI (29 - ((k / 4) / 2))) () _ _ _ _ (congrArg nI (by unfold ds_nz; (repeat' split) <;> omega)) rfl hP hD hS dn_J_numberOfLeadingZeros_78
  · skip
    refine lv_iinc (lv' := [(1, .int 27), (0, .int (nI k))]) (v := 27) (k := 0) hx hb dn_J_numberOfLeadingZeros_54 hl rfl (by decide) (by decide) rfl (fun ls hl => ?_)
    refine lv_iload_n hx hb dn_J_numberOfLeadingZeros_57 rfl (lv_at hl 1 rfl) ?_
    refine lv_iconst (v := 4) hx hb dn_J_numberOfLeadingZeros_58 (by decide) ?_
    refine lv_iushr hx hb dn_J_numberOfLeadingZeros_59 rfl ?_
    refine gr_top (y := (nI (k / 16))) (pk_ushrN (by omega) 4 4 (by decide)) ?_
    refine lv_istore_n (lv' := [(0, .int (nI (k / 16))), (1, .int 27)]) hx hb dn_J_numberOfLeadingZeros_60 rfl hl (by decide) rfl (fun ls hl => ?_)
    refine lv_iload_n hx hb dn_J_numberOfLeadingZeros_61 rfl (lv_at hl 0 rfl) ?_
    refine lv_iconst (v := 4) hx hb dn_J_numberOfLeadingZeros_62 (by decide) ?_
    refine gr_clt (tgt := 73) hx hb (k / 16) 4 rfl rfl (by omega) (by decide) dn_J_numberOfLeadingZeros_63 (by decide) (fun h63 => ?_) (fun h63 => ?_)
    · skip
      refine lv_iload_n hx hb dn_J_numberOfLeadingZeros_73 rfl (lv_at hl 1 rfl) ?_
      refine lv_iload_n hx hb dn_J_numberOfLeadingZeros_74 rfl (lv_at hl 0 rfl) ?_
      refine lv_iconst (v := 1) hx hb dn_J_numberOfLeadingZeros_75 (by decide) ?_
      refine lv_iushr hx hb dn_J_numberOfLeadingZeros_76 rfl ?_
      refine gr_top (y := (nI ((k / 16) / 2))) (pk_ushrN (by omega) 1 1 (by decide)) ?_
      refine gr_subN hx hb 27 ((k / 16) / 2) rfl rfl (by omega) dn_J_numberOfLeadingZeros_77 ?_
      exact hret (nI (27 - ((k / 16) / 2))) () _ _ _ _ (congrArg nI (by unfold ds_nz; (repeat' split) <;> omega)) rfl hP hD hS dn_J_numberOfLeadingZeros_78
    · skip
      refine lv_iinc (lv' := [(1, .int 25), (0, .int (nI (k / 16)))]) (v := 25) (k := 1) hx hb dn_J_numberOfLeadingZeros_66 hl rfl (by decide) (by decide) rfl (fun ls hl => ?_)
      refine lv_iload_n hx hb dn_J_numberOfLeadingZeros_69 rfl (lv_at hl 1 rfl) ?_
      refine lv_iconst (v := 2) hx hb dn_J_numberOfLeadingZeros_70 (by decide) ?_
      refine lv_iushr hx hb dn_J_numberOfLeadingZeros_71 rfl ?_
      refine gr_top (y := (nI ((k / 16) / 4))) (pk_ushrN (by omega) 2 2 (by decide)) ?_
      refine lv_istore_n (lv' := [(0, .int (nI ((k / 16) / 4))), (1, .int 25)]) hx hb dn_J_numberOfLeadingZeros_72 rfl hl (by decide) rfl (fun ls hl => ?_)
      refine lv_iload_n hx hb dn_J_numberOfLeadingZeros_73 rfl (lv_at hl 1 rfl) ?_
      refine lv_iload_n hx hb dn_J_numberOfLeadingZeros_74 rfl (lv_at hl 0 rfl) ?_
      refine lv_iconst (v := 1) hx hb dn_J_numberOfLeadingZeros_75 (by decide) ?_
      refine lv_iushr hx hb dn_J_numberOfLeadingZeros_76 rfl ?_
      refine gr_top (y := (nI (((k / 16) / 4) / 2))) (pk_ushrN (by omega) 1 1 (by decide)) ?_
      refine gr_subN hx hb 25 (((k / 16) / 4) / 2) rfl rfl (by omega) dn_J_numberOfLeadingZeros_77 ?_
      exact hret (nI (25 - (((k / 16) / 4) / 2))) () _ _ _ _ (congrArg nI (by unfold ds_nz; (repeat' split) <;> omega)) rfl hP hD hS dn_J_numberOfLeadingZeros_78

set_option maxRecDepth 100000 in
set_option maxHeartbeats 4000000 in
theorem c_J_highestOneBit (l : Launch) (dC : Nat → ClassId) (dI : Nat → Nat → Nat) (cI cZ : ClassId) (c : Nat) (hc2 : 2 ≤ c) (hc : c ≤ 40) : gc_I l yn_J_highestOneBit (gw yn_J_highestOneBit cn_J_highestOneBit 1 (some .int)) (rm_ 1 21) (dC, dI) vwCl (gT cI cZ) [.int (nI (c - 1))] [] (fun r (_ : Unit) => r = nI (ds_hb c)) (fun _ => []) := by
  refine gc_I_of (cc := cn_J_highestOneBit) (maxL := 1) (ty := .int) (by decide) rfl (Nat.le_of_ble_eq_true rfl) ?_
  intro pp ee ss mm ar be me cd A Q ls H0 H locs hx hb hml hown hts hK hP hD hS hA hl hret
  have hw : ∀ w ∈ gw_T, w.before ar ss = true := fun w h => hts w (List.mem_cons_of_mem _ h)
  have hl : lv_has ls 1 [(0, .int (nI (c - 1)))] := hl
  refine lv_iload_n hx hb dn_J_highestOneBit_0 rfl (lv_at hl 0 rfl) ?_
  refine lv_ldc (v := (-2147483648)) hx hb hown (hw _ mw_336) dn_J_highestOneBit_1 ?_
  refine lv_iload_n hx hb dn_J_highestOneBit_3 rfl (lv_at hl 0 rfl) ?_
  refine gc_s0 (v := (nI (ds_nz (c - 1)))) (As := [.int (nI (c - 1))]) (rest := [.int (-2147483648), .int (nI (c - 1))]) ⟨hx, hb, hml, hown, hw⟩ (c_J_numberOfLeadingZeros l dC dI cI cZ (c - 1) (by omega) (by omega)) (gw_cS 1 hw mw_337 mw_338 mw_8 mw_339 hd_J_numberOfLeadingZeros ⟨Nat.le_of_ble_eq_true rfl, Nat.le_of_ble_eq_true rfl⟩) hK hP hD hS hA rfl hl.1 rfl (Nat.le_of_ble_eq_true rfl) dn_J_highestOneBit_4 ⟨Nat.zero_le _, Nat.zero_le _⟩ (fun H locs hP hD hS => ?_)
  refine lv_iushr hx hb dn_J_highestOneBit_7 rfl ?_
  refine lv_iand hx hb dn_J_highestOneBit_8 ?_
  exact hret ((nI (c - 1)) &&& ((((-2147483648) : Int32).toUInt32 >>> (((nI (ds_nz (c - 1))) : Int32).toUInt32 &&& Int32.toUInt32 31)).toInt32)) () _ _ _ _ (ds_top c (by omega) hc2) rfl hP hD hS dn_J_highestOneBit_9

set_option maxRecDepth 100000 in
set_option maxHeartbeats 4000000 in
theorem c_E_stepTowards (l : Launch) (dC : Nat → ClassId) (dI : Nat → Nat → Nat) (cI cZ : ClassId) (a0 a1 a2 a3 : Nat) (X Y Z : Nat → Int32) (st ff fc b t s : Nat) (hs : s < 6) (hc2 : 2 ≤ fc) (hfc : fc ≤ 40) (hff : ff ≤ 40) (ht : t < 2 ^ 31) : gc_V l yn_E_stepTowards (gw yn_E_stepTowards cn_E_stepTowards 5 none) (rm_ 2 41) (dC, dI) vwCl (gT cI cZ) [.ref a0, .int (nI t), .int (nI s)] [(a0, .inr (1, [.ref a1, .ref a2, .ref a3, .int (nI st), .int (nI ff), .int (nI fc), .int (nI b)])), (a1, .inl (cZ, 6, .inl X)), (a2, .inl (cI, 6, .inl Y)), (a3, .inl (cI, 6, .inl Z))] (fun (_ : Unit) => True) (fun _ => [(a0, .inr (1, [.ref a1, .ref a2, .ref a3, .int (nI st), .int (nI ((ds_nx t ff fc).1)), .int (nI ((ds_nx t ff fc).2)), .int (nI b)])), (a1, .inl (cZ, 6, .inl (upd X s (ds_r t ff fc)))), (a2, .inl (cI, 6, .inl (upd Y s (nI (ds_f t ff fc))))), (a3, .inl (cI, 6, .inl (upd Z s (nI (ds_c t ff fc)))))]) := by
  refine gc_V_of (cc := cn_E_stepTowards) (maxL := 5) (by decide) rfl (Nat.le_of_ble_eq_true rfl) ?_
  intro pp ee ss mm ar be me cd A Q ls H0 H locs hx hb hml hown hts hK hP hD hS hA hl hret
  have hw : ∀ w ∈ gw_T, w.before ar ss = true := fun w h => hts w (List.mem_cons_of_mem _ h)
  have hl : lv_has ls 5 [(0, .ref a0), (1, .int (nI t)), (2, .int (nI s))] := hl
  obtain ⟨hb1, hb2, hb3⟩ := ds_hb_in (c := fc) hc2 (by omega)
  refine lv_aload_n hx hb dn_E_stepTowards_0 rfl (lv_at hl 0 rfl) ?_
  refine va_get (D := (dC, dI)) (ci := 1) (v := .int (nI fc)) (C := rn_E) (T := tn_E) (N := 7) hx hb hw ml_E hown hK hP 0 rfl rfl 5 (by decide) (hw _ mw_67) (fun _ h9 => h9) rfl dn_E_stepTowards_1 ?_
  refine lv_iconst (v := 1) hx hb dn_E_stepTowards_4 (by decide) ?_
  refine gr_subN hx hb fc 1 rfl rfl (by omega) dn_E_stepTowards_5 ?_
  refine gc_s0 (v := (nI (ds_hb fc))) (As := [.int (nI (fc - 1))]) (rest := []) ⟨hx, hb, hml, hown, hw⟩ (c_J_highestOneBit l dC dI cI cZ fc (by omega) (by omega)) (gw_cS 1 hw mw_333 mw_334 mw_8 mw_335 hd_J_highestOneBit ⟨Nat.le_of_ble_eq_true rfl, Nat.le_of_ble_eq_true rfl⟩) hK hP hD hS hA rfl hl.1 rfl (Nat.le_of_ble_eq_true rfl) dn_E_stepTowards_6 ⟨Nat.zero_le _, Nat.zero_le _⟩ (fun H locs hP hD hS => ?_)
  refine lv_istore_n (lv' := [(3, .int (nI (ds_hb fc))), (0, .ref a0), (1, .int (nI t)), (2, .int (nI s))]) hx hb dn_E_stepTowards_9 rfl hl (by decide) rfl (fun ls hl => ?_)
  refine lv_iload_n hx hb dn_E_stepTowards_10 rfl (lv_at hl 2 rfl) ?_
  refine lv_aload_n hx hb dn_E_stepTowards_11 rfl (lv_at hl 1 rfl) ?_
  refine va_get (D := (dC, dI)) (ci := 1) (v := .int (nI ff)) (C := rn_E) (T := tn_E) (N := 7) hx hb hw ml_E hown hK hP 0 rfl rfl 4 (by decide) (hw _ mw_66) (fun _ h9 => h9) rfl dn_E_stepTowards_12 ?_
  refine lv_iload_n hx hb dn_E_stepTowards_15 rfl (lv_at hl 0 rfl) ?_
  refine gr_addN hx hb ff (ds_hb fc) rfl rfl dn_E_stepTowards_16 ?_
  refine gr_clt (tgt := 24) hx hb t (ff + (ds_hb fc)) rfl rfl (by omega) (by omega) dn_E_stepTowards_17 (by decide) (fun h17 => ?_) (fun h17 => ?_)
  · skip
    refine lv_iconst (v := 0) hx hb dn_E_stepTowards_24 (by decide) ?_
    refine lv_istore (lv' := [(4, .int 0), (3, .int (nI (ds_hb fc))), (0, .ref a0), (1, .int (nI t)), (2, .int (nI s))]) hx hb dn_E_stepTowards_25 hl (by decide) rfl (fun ls hl => ?_)
    refine lv_aload_n hx hb dn_E_stepTowards_27 rfl (lv_at hl 2 rfl) ?_
    refine va_get (D := (dC, dI)) (ci := 1) (v := .ref a1) (C := rn_E) (T := tn_E) (N := 7) hx hb hw ml_E hown hK hP 0 rfl rfl 0 (by decide) (hw _ mw_62) (fun _ h9 => h9) rfl dn_E_stepTowards_28 ?_
    refine lv_iload_n hx hb dn_E_stepTowards_31 rfl (lv_at hl 4 rfl) ?_
    refine lv_iload hx hb dn_E_stepTowards_32 (lv_at hl 0 rfl) ?_
    refine gr_zast hx hb hK hP hD hS 1 1 rfl rfl s rfl (by omega) (by decide) rfl dn_E_stepTowards_34 (fun H locs hP hD hS => ?_)
    have hP : va_P (dC, dI) vwCl [(a0, .inr (1, [.ref a1, .ref a2, .ref a3, .int (nI st), .int (nI ff), .int (nI fc), .int (nI b)])), (a1, .inl (cZ, 6, .inl (upd X s 0))), (a2, .inl (cI, 6, .inl Y)), (a3, .inl (cI, 6, .inl Z))] H := hP
    have hD : va_D A [(a0, .inr (1, [.ref a1, .ref a2, .ref a3, .int (nI st), .int (nI ff), .int (nI fc), .int (nI b)])), (a1, .inl (cZ, 6, .inl (upd X s 0))), (a2, .inl (cI, 6, .inl Y)), (a3, .inl (cI, 6, .inl Z))] := hD
    refine lv_aload_n hx hb dn_E_stepTowards_35 rfl (lv_at hl 2 rfl) ?_
    refine va_get (D := (dC, dI)) (ci := 1) (v := .ref a2) (C := rn_E) (T := tn_E) (N := 7) hx hb hw ml_E hown hK hP 0 rfl rfl 1 (by decide) (hw _ mw_63) (fun _ h9 => h9) rfl dn_E_stepTowards_36 ?_
    refine lv_iload_n hx hb dn_E_stepTowards_39 rfl (lv_at hl 4 rfl) ?_
    refine lv_iload hx hb dn_E_stepTowards_40 (lv_at hl 0 rfl) ?_
    refine lv_if_eq (tgt := 52) hx hb dn_E_stepTowards_42 (by decide) (fun _ => ?_) (fun h => absurd h (by decide))
    refine lv_aload_n hx hb dn_E_stepTowards_52 rfl (lv_at hl 2 rfl) ?_
    refine va_get (D := (dC, dI)) (ci := 1) (v := .int (nI ff)) (C := rn_E) (T := tn_E) (N := 7) hx hb hw ml_E hown hK hP 0 rfl rfl 4 (by decide) (hw _ mw_66) (fun _ h9 => h9) rfl dn_E_stepTowards_53 ?_
    refine lv_iload_n hx hb dn_E_stepTowards_56 rfl (lv_at hl 1 rfl) ?_
    refine gr_addN hx hb ff (ds_hb fc) rfl rfl dn_E_stepTowards_57 ?_
    refine gr_iast hx hb hK hP hD hS 2 0 rfl rfl s rfl (by omega) (by decide) dn_E_stepTowards_58 (fun H locs hP hD hS => ?_)
    have hP : va_P (dC, dI) vwCl [(a0, .inr (1, [.ref a1, .ref a2, .ref a3, .int (nI st), .int (nI ff), .int (nI fc), .int (nI b)])), (a1, .inl (cZ, 6, .inl (upd X s 0))), (a2, .inl (cI, 6, .inl (upd Y s (nI (ff + (ds_hb fc)))))), (a3, .inl (cI, 6, .inl Z))] H := hP
    have hD : va_D A [(a0, .inr (1, [.ref a1, .ref a2, .ref a3, .int (nI st), .int (nI ff), .int (nI fc), .int (nI b)])), (a1, .inl (cZ, 6, .inl (upd X s 0))), (a2, .inl (cI, 6, .inl (upd Y s (nI (ff + (ds_hb fc)))))), (a3, .inl (cI, 6, .inl Z))] := hD
    refine lv_aload_n hx hb dn_E_stepTowards_59 rfl (lv_at hl 2 rfl) ?_
    refine va_get (D := (dC, dI)) (ci := 1) (v := .ref a3) (C := rn_E) (T := tn_E) (N := 7) hx hb hw ml_E hown hK hP 0 rfl rfl 2 (by decide) (hw _ mw_64) (fun _ h9 => h9) rfl dn_E_stepTowards_60 ?_
    refine lv_iload_n hx hb dn_E_stepTowards_63 rfl (lv_at hl 4 rfl) ?_
    refine lv_iload hx hb dn_E_stepTowards_64 (lv_at hl 0 rfl) ?_
    refine lv_if_eq (tgt := 73) hx hb dn_E_stepTowards_66 (by decide) (fun _ => ?_) (fun h => absurd h (by decide))
    refine lv_aload_n hx hb dn_E_stepTowards_73 rfl (lv_at hl 2 rfl) ?_
    refine va_get (D := (dC, dI)) (ci := 1) (v := .int (nI fc)) (C := rn_E) (T := tn_E) (N := 7) hx hb hw ml_E hown hK hP 0 rfl rfl 5 (by decide) (hw _ mw_67) (fun _ h9 => h9) rfl dn_E_stepTowards_74 ?_
    refine lv_iload_n hx hb dn_E_stepTowards_77 rfl (lv_at hl 1 rfl) ?_
    refine gr_subN hx hb fc (ds_hb fc) rfl rfl (by omega) dn_E_stepTowards_78 ?_
    refine gr_iast hx hb hK hP hD hS 3 0 rfl rfl s rfl (by omega) (by decide) dn_E_stepTowards_79 (fun H locs hP hD hS => ?_)
    have hP : va_P (dC, dI) vwCl [(a0, .inr (1, [.ref a1, .ref a2, .ref a3, .int (nI st), .int (nI ff), .int (nI fc), .int (nI b)])), (a1, .inl (cZ, 6, .inl (upd X s 0))), (a2, .inl (cI, 6, .inl (upd Y s (nI (ff + (ds_hb fc)))))), (a3, .inl (cI, 6, .inl (upd Z s (nI (fc - (ds_hb fc))))))] H := hP
    have hD : va_D A [(a0, .inr (1, [.ref a1, .ref a2, .ref a3, .int (nI st), .int (nI ff), .int (nI fc), .int (nI b)])), (a1, .inl (cZ, 6, .inl (upd X s 0))), (a2, .inl (cI, 6, .inl (upd Y s (nI (ff + (ds_hb fc)))))), (a3, .inl (cI, 6, .inl (upd Z s (nI (fc - (ds_hb fc))))))] := hD
    refine lv_aload_n hx hb dn_E_stepTowards_80 rfl (lv_at hl 2 rfl) ?_
    refine lv_iload hx hb dn_E_stepTowards_81 (lv_at hl 0 rfl) ?_
    refine lv_if_eq (tgt := 95) hx hb dn_E_stepTowards_83 (by decide) (fun _ => ?_) (fun h => absurd h (by decide))
    refine lv_aload_n hx hb dn_E_stepTowards_95 rfl (lv_at hl 2 rfl) ?_
    refine va_get (D := (dC, dI)) (ci := 1) (v := .int (nI ff)) (C := rn_E) (T := tn_E) (N := 7) hx hb hw ml_E hown hK hP 0 rfl rfl 4 (by decide) (hw _ mw_66) (fun _ h9 => h9) rfl dn_E_stepTowards_96 ?_
    refine va_put (D := (dC, dI)) (ci := 1) (v := .int (nI ff)) (ty := .int) (C := rn_E) (T := tn_E) (N := 7) hx hb hw ml_E tt_E to_E nd_E hown hK hP hD hS 0 rfl rfl 4 (by decide) (hw _ mw_66) (fun _ h9 => h9) rfl (by decide +kernel) rfl rfl (Nat.le_of_ble_eq_true rfl) dn_E_stepTowards_99 (fun H locs hP hD hS => ?_)
    have hP : va_P (dC, dI) vwCl [(a0, .inr (1, [.ref a1, .ref a2, .ref a3, .int (nI st), .int (nI ff), .int (nI fc), .int (nI b)])), (a1, .inl (cZ, 6, .inl (upd X s 0))), (a2, .inl (cI, 6, .inl (upd Y s (nI (ff + (ds_hb fc)))))), (a3, .inl (cI, 6, .inl (upd Z s (nI (fc - (ds_hb fc))))))] H := hP
    have hD : va_D A [(a0, .inr (1, [.ref a1, .ref a2, .ref a3, .int (nI st), .int (nI ff), .int (nI fc), .int (nI b)])), (a1, .inl (cZ, 6, .inl (upd X s 0))), (a2, .inl (cI, 6, .inl (upd Y s (nI (ff + (ds_hb fc)))))), (a3, .inl (cI, 6, .inl (upd Z s (nI (fc - (ds_hb fc))))))] := hD
    refine lv_aload_n hx hb dn_E_stepTowards_102 rfl (lv_at hl 2 rfl) ?_
    refine lv_iload hx hb dn_E_stepTowards_103 (lv_at hl 0 rfl) ?_
    refine lv_if_eq (tgt := 117) hx hb dn_E_stepTowards_105 (by decide) (fun _ => ?_) (fun h => absurd h (by decide))
    refine lv_iload_n hx hb dn_E_stepTowards_117 rfl (lv_at hl 1 rfl) ?_
    refine va_put (D := (dC, dI)) (ci := 1) (v := .int (nI (ds_hb fc))) (ty := .int) (C := rn_E) (T := tn_E) (N := 7) hx hb hw ml_E tt_E to_E nd_E hown hK hP hD hS 0 rfl rfl 5 (by decide) (hw _ mw_67) (fun _ h9 => h9) rfl (by decide +kernel) rfl rfl (Nat.le_of_ble_eq_true rfl) dn_E_stepTowards_118 (fun H locs hP hD hS => ?_)
    have hP : va_P (dC, dI) vwCl [(a0, .inr (1, [.ref a1, .ref a2, .ref a3, .int (nI st), .int (nI ff), .int (nI (ds_hb fc)), .int (nI b)])), (a1, .inl (cZ, 6, .inl (upd X s 0))), (a2, .inl (cI, 6, .inl (upd Y s (nI (ff + (ds_hb fc)))))), (a3, .inl (cI, 6, .inl (upd Z s (nI (fc - (ds_hb fc))))))] H := hP
    have hD : va_D A [(a0, .inr (1, [.ref a1, .ref a2, .ref a3, .int (nI st), .int (nI ff), .int (nI (ds_hb fc)), .int (nI b)])), (a1, .inl (cZ, 6, .inl (upd X s 0))), (a2, .inl (cI, 6, .inl (upd Y s (nI (ff + (ds_hb fc)))))), (a3, .inl (cI, 6, .inl (upd Z s (nI (fc - (ds_hb fc))))))] := hD
    have hP : va_P (dC, dI) vwCl [(a0, .inr (1, [.ref a1, .ref a2, .ref a3, .int (nI st), .int (nI ((ds_nx t ff fc).1)), .int (nI ((ds_nx t ff fc).2)), .int (nI b)])), (a1, .inl (cZ, 6, .inl (upd X s (ds_r t ff fc)))), (a2, .inl (cI, 6, .inl (upd Y s (nI (ds_f t ff fc))))), (a3, .inl (cI, 6, .inl (upd Z s (nI (ds_c t ff fc)))))] H := by rw [ds_lr h17, ds_lf h17, ds_lc h17, ds_lx h17]; exact hP
    have hD : va_D A [(a0, .inr (1, [.ref a1, .ref a2, .ref a3, .int (nI st), .int (nI ((ds_nx t ff fc).1)), .int (nI ((ds_nx t ff fc).2)), .int (nI b)])), (a1, .inl (cZ, 6, .inl (upd X s (ds_r t ff fc)))), (a2, .inl (cI, 6, .inl (upd Y s (nI (ds_f t ff fc))))), (a3, .inl (cI, 6, .inl (upd Z s (nI (ds_c t ff fc)))))] := by rw [ds_lr h17, ds_lf h17, ds_lc h17, ds_lx h17]; exact hD
    exact hret () _ _ _ _ trivial hP hD hS dn_E_stepTowards_121
  · skip
    refine lv_iconst (v := 1) hx hb dn_E_stepTowards_20 (by decide) ?_
    refine lv_goto (tgt := 25) hx hb dn_E_stepTowards_21 (by decide) ?_
    refine lv_istore (lv' := [(4, .int 1), (3, .int (nI (ds_hb fc))), (0, .ref a0), (1, .int (nI t)), (2, .int (nI s))]) hx hb dn_E_stepTowards_25 hl (by decide) rfl (fun ls hl => ?_)
    refine lv_aload_n hx hb dn_E_stepTowards_27 rfl (lv_at hl 2 rfl) ?_
    refine va_get (D := (dC, dI)) (ci := 1) (v := .ref a1) (C := rn_E) (T := tn_E) (N := 7) hx hb hw ml_E hown hK hP 0 rfl rfl 0 (by decide) (hw _ mw_62) (fun _ h9 => h9) rfl dn_E_stepTowards_28 ?_
    refine lv_iload_n hx hb dn_E_stepTowards_31 rfl (lv_at hl 4 rfl) ?_
    refine lv_iload hx hb dn_E_stepTowards_32 (lv_at hl 0 rfl) ?_
    refine gr_zast hx hb hK hP hD hS 1 1 rfl rfl s rfl (by omega) (by decide) rfl dn_E_stepTowards_34 (fun H locs hP hD hS => ?_)
    have hP : va_P (dC, dI) vwCl [(a0, .inr (1, [.ref a1, .ref a2, .ref a3, .int (nI st), .int (nI ff), .int (nI fc), .int (nI b)])), (a1, .inl (cZ, 6, .inl (upd X s 1))), (a2, .inl (cI, 6, .inl Y)), (a3, .inl (cI, 6, .inl Z))] H := hP
    have hD : va_D A [(a0, .inr (1, [.ref a1, .ref a2, .ref a3, .int (nI st), .int (nI ff), .int (nI fc), .int (nI b)])), (a1, .inl (cZ, 6, .inl (upd X s 1))), (a2, .inl (cI, 6, .inl Y)), (a3, .inl (cI, 6, .inl Z))] := hD
    refine lv_aload_n hx hb dn_E_stepTowards_35 rfl (lv_at hl 2 rfl) ?_
    refine va_get (D := (dC, dI)) (ci := 1) (v := .ref a2) (C := rn_E) (T := tn_E) (N := 7) hx hb hw ml_E hown hK hP 0 rfl rfl 1 (by decide) (hw _ mw_63) (fun _ h9 => h9) rfl dn_E_stepTowards_36 ?_
    refine lv_iload_n hx hb dn_E_stepTowards_39 rfl (lv_at hl 4 rfl) ?_
    refine lv_iload hx hb dn_E_stepTowards_40 (lv_at hl 0 rfl) ?_
    refine lv_if_eq (tgt := 52) hx hb dn_E_stepTowards_42 (by decide) (fun h => absurd h (by decide)) (fun _ => ?_)
    refine lv_aload_n hx hb dn_E_stepTowards_45 rfl (lv_at hl 2 rfl) ?_
    refine va_get (D := (dC, dI)) (ci := 1) (v := .int (nI ff)) (C := rn_E) (T := tn_E) (N := 7) hx hb hw ml_E hown hK hP 0 rfl rfl 4 (by decide) (hw _ mw_66) (fun _ h9 => h9) rfl dn_E_stepTowards_46 ?_
    refine lv_goto (tgt := 58) hx hb dn_E_stepTowards_49 (by decide) ?_
    refine gr_iast hx hb hK hP hD hS 2 0 rfl rfl s rfl (by omega) (by decide) dn_E_stepTowards_58 (fun H locs hP hD hS => ?_)
    have hP : va_P (dC, dI) vwCl [(a0, .inr (1, [.ref a1, .ref a2, .ref a3, .int (nI st), .int (nI ff), .int (nI fc), .int (nI b)])), (a1, .inl (cZ, 6, .inl (upd X s 1))), (a2, .inl (cI, 6, .inl (upd Y s (nI ff)))), (a3, .inl (cI, 6, .inl Z))] H := hP
    have hD : va_D A [(a0, .inr (1, [.ref a1, .ref a2, .ref a3, .int (nI st), .int (nI ff), .int (nI fc), .int (nI b)])), (a1, .inl (cZ, 6, .inl (upd X s 1))), (a2, .inl (cI, 6, .inl (upd Y s (nI ff)))), (a3, .inl (cI, 6, .inl Z))] := hD
    refine lv_aload_n hx hb dn_E_stepTowards_59 rfl (lv_at hl 2 rfl) ?_
    refine va_get (D := (dC, dI)) (ci := 1) (v := .ref a3) (C := rn_E) (T := tn_E) (N := 7) hx hb hw ml_E hown hK hP 0 rfl rfl 2 (by decide) (hw _ mw_64) (fun _ h9 => h9) rfl dn_E_stepTowards_60 ?_
    refine lv_iload_n hx hb dn_E_stepTowards_63 rfl (lv_at hl 4 rfl) ?_
    refine lv_iload hx hb dn_E_stepTowards_64 (lv_at hl 0 rfl) ?_
    refine lv_if_eq (tgt := 73) hx hb dn_E_stepTowards_66 (by decide) (fun h => absurd h (by decide)) (fun _ => ?_)
    refine lv_iload_n hx hb dn_E_stepTowards_69 rfl (lv_at hl 1 rfl) ?_
    refine lv_goto (tgt := 79) hx hb dn_E_stepTowards_70 (by decide) ?_
    refine gr_iast hx hb hK hP hD hS 3 0 rfl rfl s rfl (by omega) (by decide) dn_E_stepTowards_79 (fun H locs hP hD hS => ?_)
    have hP : va_P (dC, dI) vwCl [(a0, .inr (1, [.ref a1, .ref a2, .ref a3, .int (nI st), .int (nI ff), .int (nI fc), .int (nI b)])), (a1, .inl (cZ, 6, .inl (upd X s 1))), (a2, .inl (cI, 6, .inl (upd Y s (nI ff)))), (a3, .inl (cI, 6, .inl (upd Z s (nI (ds_hb fc)))))] H := hP
    have hD : va_D A [(a0, .inr (1, [.ref a1, .ref a2, .ref a3, .int (nI st), .int (nI ff), .int (nI fc), .int (nI b)])), (a1, .inl (cZ, 6, .inl (upd X s 1))), (a2, .inl (cI, 6, .inl (upd Y s (nI ff)))), (a3, .inl (cI, 6, .inl (upd Z s (nI (ds_hb fc)))))] := hD
    refine lv_aload_n hx hb dn_E_stepTowards_80 rfl (lv_at hl 2 rfl) ?_
    refine lv_iload hx hb dn_E_stepTowards_81 (lv_at hl 0 rfl) ?_
    refine lv_if_eq (tgt := 95) hx hb dn_E_stepTowards_83 (by decide) (fun h => absurd h (by decide)) (fun _ => ?_)
    refine lv_aload_n hx hb dn_E_stepTowards_86 rfl (lv_at hl 2 rfl) ?_
    refine va_get (D := (dC, dI)) (ci := 1) (v := .int (nI ff)) (C := rn_E) (T := tn_E) (N := 7) hx hb hw ml_E hown hK hP 0 rfl rfl 4 (by decide) (hw _ mw_66) (fun _ h9 => h9) rfl dn_E_stepTowards_87 ?_
    refine lv_iload_n hx hb dn_E_stepTowards_90 rfl (lv_at hl 1 rfl) ?_
    refine gr_addN hx hb ff (ds_hb fc) rfl rfl dn_E_stepTowards_91 ?_
    refine lv_goto (tgt := 99) hx hb dn_E_stepTowards_92 (by decide) ?_
    refine va_put (D := (dC, dI)) (ci := 1) (v := .int (nI (ff + (ds_hb fc)))) (ty := .int) (C := rn_E) (T := tn_E) (N := 7) hx hb hw ml_E tt_E to_E nd_E hown hK hP hD hS 0 rfl rfl 4 (by decide) (hw _ mw_66) (fun _ h9 => h9) rfl (by decide +kernel) rfl rfl (Nat.le_of_ble_eq_true rfl) dn_E_stepTowards_99 (fun H locs hP hD hS => ?_)
    have hP : va_P (dC, dI) vwCl [(a0, .inr (1, [.ref a1, .ref a2, .ref a3, .int (nI st), .int (nI (ff + (ds_hb fc))), .int (nI fc), .int (nI b)])), (a1, .inl (cZ, 6, .inl (upd X s 1))), (a2, .inl (cI, 6, .inl (upd Y s (nI ff)))), (a3, .inl (cI, 6, .inl (upd Z s (nI (ds_hb fc)))))] H := hP
    have hD : va_D A [(a0, .inr (1, [.ref a1, .ref a2, .ref a3, .int (nI st), .int (nI (ff + (ds_hb fc))), .int (nI fc), .int (nI b)])), (a1, .inl (cZ, 6, .inl (upd X s 1))), (a2, .inl (cI, 6, .inl (upd Y s (nI ff)))), (a3, .inl (cI, 6, .inl (upd Z s (nI (ds_hb fc)))))] := hD
    refine lv_aload_n hx hb dn_E_stepTowards_102 rfl (lv_at hl 2 rfl) ?_
    refine lv_iload hx hb dn_E_stepTowards_103 (lv_at hl 0 rfl) ?_
    refine lv_if_eq (tgt := 117) hx hb dn_E_stepTowards_105 (by decide) (fun h => absurd h (by decide)) (fun _ => ?_)
    refine lv_aload_n hx hb dn_E_stepTowards_108 rfl (lv_at hl 2 rfl) ?_
    refine va_get (D := (dC, dI)) (ci := 1) (v := .int (nI fc)) (C := rn_E) (T := tn_E) (N := 7) hx hb hw ml_E hown hK hP 0 rfl rfl 5 (by decide) (hw _ mw_67) (fun _ h9 => h9) rfl dn_E_stepTowards_109 ?_
    refine lv_iload_n hx hb dn_E_stepTowards_112 rfl (lv_at hl 1 rfl) ?_
    refine gr_subN hx hb fc (ds_hb fc) rfl rfl (by omega) dn_E_stepTowards_113 ?_
    refine lv_goto (tgt := 118) hx hb dn_E_stepTowards_114 (by decide) ?_
    refine va_put (D := (dC, dI)) (ci := 1) (v := .int (nI (fc - (ds_hb fc)))) (ty := .int) (C := rn_E) (T := tn_E) (N := 7) hx hb hw ml_E tt_E to_E nd_E hown hK hP hD hS 0 rfl rfl 5 (by decide) (hw _ mw_67) (fun _ h9 => h9) rfl (by decide +kernel) rfl rfl (Nat.le_of_ble_eq_true rfl) dn_E_stepTowards_118 (fun H locs hP hD hS => ?_)
    have hP : va_P (dC, dI) vwCl [(a0, .inr (1, [.ref a1, .ref a2, .ref a3, .int (nI st), .int (nI (ff + (ds_hb fc))), .int (nI (fc - (ds_hb fc))), .int (nI b)])), (a1, .inl (cZ, 6, .inl (upd X s 1))), (a2, .inl (cI, 6, .inl (upd Y s (nI ff)))), (a3, .inl (cI, 6, .inl (upd Z s (nI (ds_hb fc)))))] H := hP
    have hD : va_D A [(a0, .inr (1, [.ref a1, .ref a2, .ref a3, .int (nI st), .int (nI (ff + (ds_hb fc))), .int (nI (fc - (ds_hb fc))), .int (nI b)])), (a1, .inl (cZ, 6, .inl (upd X s 1))), (a2, .inl (cI, 6, .inl (upd Y s (nI ff)))), (a3, .inl (cI, 6, .inl (upd Z s (nI (ds_hb fc)))))] := hD
    have hP : va_P (dC, dI) vwCl [(a0, .inr (1, [.ref a1, .ref a2, .ref a3, .int (nI st), .int (nI ((ds_nx t ff fc).1)), .int (nI ((ds_nx t ff fc).2)), .int (nI b)])), (a1, .inl (cZ, 6, .inl (upd X s (ds_r t ff fc)))), (a2, .inl (cI, 6, .inl (upd Y s (nI (ds_f t ff fc))))), (a3, .inl (cI, 6, .inl (upd Z s (nI (ds_c t ff fc)))))] H := by rw [ds_rr h17, ds_rf h17, ds_rc h17, ds_rx h17]; exact hP
    have hD : va_D A [(a0, .inr (1, [.ref a1, .ref a2, .ref a3, .int (nI st), .int (nI ((ds_nx t ff fc).1)), .int (nI ((ds_nx t ff fc).2)), .int (nI b)])), (a1, .inl (cZ, 6, .inl (upd X s (ds_r t ff fc)))), (a2, .inl (cI, 6, .inl (upd Y s (nI (ds_f t ff fc))))), (a3, .inl (cI, 6, .inl (upd Z s (nI (ds_c t ff fc)))))] := by rw [ds_rr h17, ds_rf h17, ds_rc h17, ds_rx h17]; exact hD
    exact hret () _ _ _ _ trivial hP hD hS dn_E_stepTowards_121

set_option maxRecDepth 100000 in
set_option maxHeartbeats 4000000 in
theorem c_E_goDown0 (l : Launch) (dC : Nat → ClassId) (dI : Nat → Nat → Nat) (cI cZ : ClassId) (a0 a1 a2 a3 : Nat) (X Y Z : Nat → Int32) (st ff fc b t n : Nat) (ht : t < n) (hn : n ≤ 40) : gc_V l yn_E_goDown (gw yn_E_goDown cn_E_goDown 6 none) (rm_ 3 65) (dC, dI) vwCl (gT cI cZ) [.ref a0, .int (nI t), .int (nI n), .int 0] [(a0, .inr (1, [.ref a1, .ref a2, .ref a3, .int (nI st), .int (nI ff), .int (nI fc), .int (nI b)])), (a1, .inl (cZ, 6, .inl X)), (a2, .inl (cI, 6, .inl Y)), (a3, .inl (cI, 6, .inl Z))] (fun (u : (Nat → Int32) × (Nat → Int32) × (Nat → Int32) × Nat) => ds_is false t n u.2.2.2 ∧ de_ar t n u.2.2.2 u.1 u.2.1 u.2.2.1) (fun u => [(a0, .inr (1, [.ref a1, .ref a2, .ref a3, .int (nI u.2.2.2), .int (nI ((ds_at t n u.2.2.2).1)), .int (nI ((ds_at t n u.2.2.2).2)), .int (nI b)])), (a1, .inl (cZ, 6, .inl u.1)), (a2, .inl (cI, 6, .inl u.2.1)), (a3, .inl (cI, 6, .inl u.2.2.1))]) := by
  refine gc_V_of (cc := cn_E_goDown) (maxL := 6) (by decide) rfl (Nat.le_of_ble_eq_true rfl) ?_
  intro pp ee ss mm ar be me cd A Q ls H0 H locs hx hb hml hown hts hK hP hD hS hA hl hret
  have hw : ∀ w ∈ gw_T, w.before ar ss = true := fun w h => hts w (List.mem_cons_of_mem _ h)
  have hl : lv_has ls 6 [(0, .ref a0), (1, .int (nI t)), (2, .int (nI n)), (3, .int 0)] := hl
  refine lv_aload_n hx hb dn_E_goDown_0 rfl (lv_at hl 0 rfl) ?_
  refine lv_iconst (v := 0) hx hb dn_E_goDown_1 (by decide) ?_
  refine va_put (D := (dC, dI)) (ci := 1) (v := .int 0) (ty := .int) (C := rn_E) (T := tn_E) (N := 7) hx hb hw ml_E tt_E to_E nd_E hown hK hP hD hS 0 rfl rfl 3 (by decide) (hw _ mw_65) (fun _ h9 => h9) rfl (by decide +kernel) rfl rfl (Nat.le_of_ble_eq_true rfl) dn_E_goDown_2 (fun H locs hP hD hS => ?_)
  have hP : va_P (dC, dI) vwCl [(a0, .inr (1, [.ref a1, .ref a2, .ref a3, .int 0, .int (nI ff), .int (nI fc), .int (nI b)])), (a1, .inl (cZ, 6, .inl X)), (a2, .inl (cI, 6, .inl Y)), (a3, .inl (cI, 6, .inl Z))] H := hP
  have hD : va_D A [(a0, .inr (1, [.ref a1, .ref a2, .ref a3, .int 0, .int (nI ff), .int (nI fc), .int (nI b)])), (a1, .inl (cZ, 6, .inl X)), (a2, .inl (cI, 6, .inl Y)), (a3, .inl (cI, 6, .inl Z))] := hD
  refine lv_aload_n hx hb dn_E_goDown_5 rfl (lv_at hl 0 rfl) ?_
  refine lv_iconst (v := 0) hx hb dn_E_goDown_6 (by decide) ?_
  refine va_put (D := (dC, dI)) (ci := 1) (v := .int 0) (ty := .int) (C := rn_E) (T := tn_E) (N := 7) hx hb hw ml_E tt_E to_E nd_E hown hK hP hD hS 0 rfl rfl 4 (by decide) (hw _ mw_66) (fun _ h9 => h9) rfl (by decide +kernel) rfl rfl (Nat.le_of_ble_eq_true rfl) dn_E_goDown_7 (fun H locs hP hD hS => ?_)
  have hP : va_P (dC, dI) vwCl [(a0, .inr (1, [.ref a1, .ref a2, .ref a3, .int 0, .int 0, .int (nI fc), .int (nI b)])), (a1, .inl (cZ, 6, .inl X)), (a2, .inl (cI, 6, .inl Y)), (a3, .inl (cI, 6, .inl Z))] H := hP
  have hD : va_D A [(a0, .inr (1, [.ref a1, .ref a2, .ref a3, .int 0, .int 0, .int (nI fc), .int (nI b)])), (a1, .inl (cZ, 6, .inl X)), (a2, .inl (cI, 6, .inl Y)), (a3, .inl (cI, 6, .inl Z))] := hD
  refine lv_aload_n hx hb dn_E_goDown_10 rfl (lv_at hl 0 rfl) ?_
  refine lv_iload_n hx hb dn_E_goDown_11 rfl (lv_at hl 2 rfl) ?_
  refine va_put (D := (dC, dI)) (ci := 1) (v := .int (nI n)) (ty := .int) (C := rn_E) (T := tn_E) (N := 7) hx hb hw ml_E tt_E to_E nd_E hown hK hP hD hS 0 rfl rfl 5 (by decide) (hw _ mw_67) (fun _ h9 => h9) rfl (by decide +kernel) rfl rfl (Nat.le_of_ble_eq_true rfl) dn_E_goDown_12 (fun H locs hP hD hS => ?_)
  have hP : va_P (dC, dI) vwCl [(a0, .inr (1, [.ref a1, .ref a2, .ref a3, .int 0, .int 0, .int (nI n), .int (nI b)])), (a1, .inl (cZ, 6, .inl X)), (a2, .inl (cI, 6, .inl Y)), (a3, .inl (cI, 6, .inl Z))] H := hP
  have hD : va_D A [(a0, .inr (1, [.ref a1, .ref a2, .ref a3, .int 0, .int 0, .int (nI n), .int (nI b)])), (a1, .inl (cZ, 6, .inl X)), (a2, .inl (cI, 6, .inl Y)), (a3, .inl (cI, 6, .inl Z))] := hD
  refine lv_iconst (v := 0) hx hb dn_E_goDown_15 (by decide) ?_
  refine lv_istore (lv' := [(4, .int 0), (0, .ref a0), (1, .int (nI t)), (2, .int (nI n)), (3, .int 0)]) hx hb dn_E_goDown_16 hl (by decide) rfl (fun ls hl => ?_)
  have lp18 : ∀ (n_ : Nat) (s : Nat) (X : Nat → Int32) (Y : Nat → Int32) (Z : Nat → Int32) (ls : Array Slot) (H : Heap) (locs : List Loc), 6 - s = n_ → lv_has ls 6 [(0, .ref a0), (1, .int (nI t)), (2, .int (nI n)), (3, .int 0), (4, .int (nI s))] → va_P (dC, dI) vwCl [(a0, .inr (1, [.ref a1, .ref a2, .ref a3, .int (nI s), .int (nI ((ds_at t n s).1)), .int (nI ((ds_at t n s).2)), .int (nI b)])), (a1, .inl (cZ, 6, .inl X)), (a2, .inl (cI, 6, .inl Y)), (a3, .inl (cI, 6, .inl Z))] H → va_D A [(a0, .inr (1, [.ref a1, .ref a2, .ref a3, .int (nI s), .int (nI ((ds_at t n s).1)), .int (nI ((ds_at t n s).2)), .int (nI b)])), (a1, .inl (cZ, 6, .inl X)), (a2, .inl (cI, 6, .inl Y)), (a3, .inl (cI, 6, .inl Z))] → va_S A H0 H locs → (s ≤ 6) → (ds_run false t n s) → (de_ar t n s X Y Z) → W pp l ee (headSpec (gw yn_E_goDown cn_E_goDown 6 none) (rm_ 3 65)).room ss mm ar be me cd H locs 0 0 Q (F0 mm 18 ls []) := by
    intro n_
    induction n_ using Nat.strongRecOn with
    | ind n_ ih =>
      intro s X Y Z ls H locs hn_ hl hP hD hS hs6 hrun har
      obtain ⟨d1, d2, d3, -⟩ := ds_iv ht hn s hrun
      refine lv_iload hx hb dn_E_goDown_18 (lv_at hl 4 rfl) ?_
      refine lv_bipush (v := 6) hx hb dn_E_goDown_20 (by decide) ?_
      refine gr_cge (tgt := 88) hx hb s 6 rfl rfl (by omega) (by decide) dn_E_goDown_22 (by decide) (fun h22 => ?_) (fun h22 => ?_)
      · skip
        obtain rfl : 6 = s := by omega
        have he := ds_6 ht hn hrun
        exact hret (X, Y, Z, 6) _ _ _ _ ⟨⟨hrun, he⟩, har⟩ hP hD hS dn_E_goDown_88
      · skip
        refine lv_iload_n hx hb dn_E_goDown_25 rfl (lv_at hl 3 rfl) ?_
        refine lv_if_eq (tgt := 48) hx hb dn_E_goDown_26 (by decide) (fun _ => ?_) (fun h => absurd h (by decide))
        refine lv_iconst (v := 0) hx hb dn_E_goDown_48 (by decide) ?_
        refine lv_istore (lv' := [(5, .int 0), (0, .ref a0), (1, .int (nI t)), (2, .int (nI n)), (3, .int 0), (4, .int (nI s))]) hx hb dn_E_goDown_49 hl (by decide) rfl (fun ls hl => ?_)
        refine lv_aload_n hx hb dn_E_goDown_51 rfl (lv_at hl 1 rfl) ?_
        refine va_get (D := (dC, dI)) (ci := 1) (v := .int (nI ((ds_at t n s).2))) (C := rn_E) (T := tn_E) (N := 7) hx hb hw ml_E hown hK hP 0 rfl rfl 5 (by decide) (hw _ mw_67) (fun _ h9 => h9) rfl dn_E_goDown_52 ?_
        refine lv_iconst (v := 1) hx hb dn_E_goDown_55 (by decide) ?_
        refine gr_cle (tgt := 64) hx hb ((ds_at t n s).2) 1 rfl rfl (by omega) (by decide) dn_E_goDown_56 (by decide) (fun h56 => ?_) (fun h56 => ?_)
        · skip
          exact hret (X, Y, Z, s) _ _ _ _ ⟨⟨hrun, (by first | exact Or.inl h56 | exact Or.inr ⟨rfl, by show t + 1 = (ds_at t n s).1 + (ds_at t n s).2; omega⟩)⟩, har⟩ hP hD hS dn_E_goDown_64
        · skip
          refine lv_iload hx hb dn_E_goDown_59 (lv_at hl 0 rfl) ?_
          refine lv_if_eq (tgt := 65) hx hb dn_E_goDown_61 (by decide) (fun _ => ?_) (fun h => absurd h (by decide))
          refine lv_aload_n hx hb dn_E_goDown_65 rfl (lv_at hl 1 rfl) ?_
          refine lv_iload_n hx hb dn_E_goDown_66 rfl (lv_at hl 2 rfl) ?_
          refine lv_iload hx hb dn_E_goDown_67 (lv_at hl 5 rfl) ?_
          have hne : ¬ ds_end false t n s := (fun q => q.elim (fun q => absurd q (by omega)) (fun q => absurd q.1 (by decide)))
          refine gc_vv (pre := []) (wc := [(a0, .inr (1, [.ref a1, .ref a2, .ref a3, .int (nI s), .int (nI ((ds_at t n s).1)), .int (nI ((ds_at t n s).2)), .int (nI b)])), (a1, .inl (cZ, 6, .inl X)), (a2, .inl (cI, 6, .inl Y)), (a3, .inl (cI, 6, .inl Z))]) (po := []) (As := [.int (nI t), .int (nI s)]) (rest := []) ⟨hx, hb, hml, hown, hw⟩ (c_E_stepTowards l dC dI cI cZ a0 a1 a2 a3 X Y Z s ((ds_at t n s).1) ((ds_at t n s).2) b t s (by omega) (by omega) (by omega) (by omega) (by omega)) (gw_cV 2 hw mw_329 mw_331 mv_15 mw_4 mw_332 hd_E_stepTowards ⟨Nat.le_of_ble_eq_true rfl, Nat.le_of_ble_eq_true rfl⟩) (ci := 1) rfl rfl rfl hK hP hD hS hA rfl hl.1 rfl (Nat.le_of_ble_eq_true rfl) dn_E_goDown_69 ⟨Nat.zero_le _, Nat.zero_le _⟩ (fun u69 H locs hc69 hP hD hS => ?_)
          have hP : va_P (dC, dI) vwCl [(a0, .inr (1, [.ref a1, .ref a2, .ref a3, .int (nI s), .int (nI ((ds_nx t ((ds_at t n s).1) ((ds_at t n s).2)).1)), .int (nI ((ds_nx t ((ds_at t n s).1) ((ds_at t n s).2)).2)), .int (nI b)])), (a1, .inl (cZ, 6, .inl (upd X s (ds_r t ((ds_at t n s).1) ((ds_at t n s).2))))), (a2, .inl (cI, 6, .inl (upd Y s (nI (ds_f t ((ds_at t n s).1) ((ds_at t n s).2)))))), (a3, .inl (cI, 6, .inl (upd Z s (nI (ds_c t ((ds_at t n s).1) ((ds_at t n s).2))))))] H := hP
          have hD : va_D A [(a0, .inr (1, [.ref a1, .ref a2, .ref a3, .int (nI s), .int (nI ((ds_nx t ((ds_at t n s).1) ((ds_at t n s).2)).1)), .int (nI ((ds_nx t ((ds_at t n s).1) ((ds_at t n s).2)).2)), .int (nI b)])), (a1, .inl (cZ, 6, .inl (upd X s (ds_r t ((ds_at t n s).1) ((ds_at t n s).2))))), (a2, .inl (cI, 6, .inl (upd Y s (nI (ds_f t ((ds_at t n s).1) ((ds_at t n s).2)))))), (a3, .inl (cI, 6, .inl (upd Z s (nI (ds_c t ((ds_at t n s).1) ((ds_at t n s).2))))))] := hD
          refine lv_aload_n hx hb dn_E_goDown_72 rfl (lv_at hl 1 rfl) ?_
          refine lv_dup hx hb dn_E_goDown_73 rfl ?_
          refine va_get (D := (dC, dI)) (ci := 1) (v := .int (nI s)) (C := rn_E) (T := tn_E) (N := 7) hx hb hw ml_E hown hK hP 0 rfl rfl 3 (by decide) (hw _ mw_65) (fun _ h9 => h9) rfl dn_E_goDown_74 ?_
          refine lv_iconst (v := 1) hx hb dn_E_goDown_77 (by decide) ?_
          refine gr_addN hx hb s 1 rfl rfl dn_E_goDown_78 ?_
          refine va_put (D := (dC, dI)) (ci := 1) (v := .int (nI (s + 1))) (ty := .int) (C := rn_E) (T := tn_E) (N := 7) hx hb hw ml_E tt_E to_E nd_E hown hK hP hD hS 0 rfl rfl 3 (by decide) (hw _ mw_65) (fun _ h9 => h9) rfl (by decide +kernel) rfl rfl (Nat.le_of_ble_eq_true rfl) dn_E_goDown_79 (fun H locs hP hD hS => ?_)
          have hP : va_P (dC, dI) vwCl [(a0, .inr (1, [.ref a1, .ref a2, .ref a3, .int (nI (s + 1)), .int (nI ((ds_nx t ((ds_at t n s).1) ((ds_at t n s).2)).1)), .int (nI ((ds_nx t ((ds_at t n s).1) ((ds_at t n s).2)).2)), .int (nI b)])), (a1, .inl (cZ, 6, .inl (upd X s (ds_r t ((ds_at t n s).1) ((ds_at t n s).2))))), (a2, .inl (cI, 6, .inl (upd Y s (nI (ds_f t ((ds_at t n s).1) ((ds_at t n s).2)))))), (a3, .inl (cI, 6, .inl (upd Z s (nI (ds_c t ((ds_at t n s).1) ((ds_at t n s).2))))))] H := hP
          have hD : va_D A [(a0, .inr (1, [.ref a1, .ref a2, .ref a3, .int (nI (s + 1)), .int (nI ((ds_nx t ((ds_at t n s).1) ((ds_at t n s).2)).1)), .int (nI ((ds_nx t ((ds_at t n s).1) ((ds_at t n s).2)).2)), .int (nI b)])), (a1, .inl (cZ, 6, .inl (upd X s (ds_r t ((ds_at t n s).1) ((ds_at t n s).2))))), (a2, .inl (cI, 6, .inl (upd Y s (nI (ds_f t ((ds_at t n s).1) ((ds_at t n s).2)))))), (a3, .inl (cI, 6, .inl (upd Z s (nI (ds_c t ((ds_at t n s).1) ((ds_at t n s).2))))))] := hD
          refine lv_iinc (lv' := [(4, .int (nI (s + 1))), (5, .int 0), (0, .ref a0), (1, .int (nI t)), (2, .int (nI n)), (3, .int 0)]) (v := (nI (s + 1))) (k := 5) hx hb dn_E_goDown_82 hl rfl (nI_add s 1) (by decide) rfl (fun ls hl => ?_)
          refine lv_goto (tgt := 18) hx hb dn_E_goDown_85 (by decide) ?_
          exact ih (6 - (s + 1)) (by omega) (s + 1) (upd X s (ds_rt t n s)) (upd Y s (nI (ds_sf t n s))) (upd Z s (nI (ds_sc t n s))) ls H locs rfl (lv_sub hl [2, 3, 4, 5, 0] rfl) hP hD hS (by omega) (fun i hi => by rcases Nat.lt_or_ge i s with q | q; exact hrun i q; exact (show i = s by omega) ▸ hne) (de_ar_s har)
  exact lp18 _ 0 X Y Z ls H locs rfl (lv_sub hl [1, 2, 3, 4, 0] rfl) hP hD hS (Nat.zero_le _) (fun i h => absurd h (Nat.not_lt_zero i)) (⟨fun i h => absurd h (Nat.not_lt_zero i), fun i h => absurd h (Nat.not_lt_zero i), fun i h => absurd h (Nat.not_lt_zero i)⟩)

set_option maxRecDepth 100000 in
set_option maxHeartbeats 4000000 in
theorem c_E_goDown1 (l : Launch) (dC : Nat → ClassId) (dI : Nat → Nat → Nat) (cI cZ : ClassId) (a0 a1 a2 a3 : Nat) (X Y Z : Nat → Int32) (st ff fc b t n : Nat) (ht : t < n) (hn : n ≤ 40) : gc_V l yn_E_goDown (gw yn_E_goDown cn_E_goDown 6 none) (rm_ 3 65) (dC, dI) vwCl (gT cI cZ) [.ref a0, .int (nI t), .int (nI n), .int 1] [(a0, .inr (1, [.ref a1, .ref a2, .ref a3, .int (nI st), .int (nI ff), .int (nI fc), .int (nI b)])), (a1, .inl (cZ, 6, .inl X)), (a2, .inl (cI, 6, .inl Y)), (a3, .inl (cI, 6, .inl Z))] (fun (u : (Nat → Int32) × (Nat → Int32) × (Nat → Int32) × Nat) => ds_is true t n u.2.2.2 ∧ de_ar t n u.2.2.2 u.1 u.2.1 u.2.2.1) (fun u => [(a0, .inr (1, [.ref a1, .ref a2, .ref a3, .int (nI u.2.2.2), .int (nI ((ds_at t n u.2.2.2).1)), .int (nI ((ds_at t n u.2.2.2).2)), .int (nI b)])), (a1, .inl (cZ, 6, .inl u.1)), (a2, .inl (cI, 6, .inl u.2.1)), (a3, .inl (cI, 6, .inl u.2.2.1))]) := by
  refine gc_V_of (cc := cn_E_goDown) (maxL := 6) (by decide) rfl (Nat.le_of_ble_eq_true rfl) ?_
  intro pp ee ss mm ar be me cd A Q ls H0 H locs hx hb hml hown hts hK hP hD hS hA hl hret
  have hw : ∀ w ∈ gw_T, w.before ar ss = true := fun w h => hts w (List.mem_cons_of_mem _ h)
  have hl : lv_has ls 6 [(0, .ref a0), (1, .int (nI t)), (2, .int (nI n)), (3, .int 1)] := hl
  refine lv_aload_n hx hb dn_E_goDown_0 rfl (lv_at hl 0 rfl) ?_
  refine lv_iconst (v := 0) hx hb dn_E_goDown_1 (by decide) ?_
  refine va_put (D := (dC, dI)) (ci := 1) (v := .int 0) (ty := .int) (C := rn_E) (T := tn_E) (N := 7) hx hb hw ml_E tt_E to_E nd_E hown hK hP hD hS 0 rfl rfl 3 (by decide) (hw _ mw_65) (fun _ h9 => h9) rfl (by decide +kernel) rfl rfl (Nat.le_of_ble_eq_true rfl) dn_E_goDown_2 (fun H locs hP hD hS => ?_)
  have hP : va_P (dC, dI) vwCl [(a0, .inr (1, [.ref a1, .ref a2, .ref a3, .int 0, .int (nI ff), .int (nI fc), .int (nI b)])), (a1, .inl (cZ, 6, .inl X)), (a2, .inl (cI, 6, .inl Y)), (a3, .inl (cI, 6, .inl Z))] H := hP
  have hD : va_D A [(a0, .inr (1, [.ref a1, .ref a2, .ref a3, .int 0, .int (nI ff), .int (nI fc), .int (nI b)])), (a1, .inl (cZ, 6, .inl X)), (a2, .inl (cI, 6, .inl Y)), (a3, .inl (cI, 6, .inl Z))] := hD
  refine lv_aload_n hx hb dn_E_goDown_5 rfl (lv_at hl 0 rfl) ?_
  refine lv_iconst (v := 0) hx hb dn_E_goDown_6 (by decide) ?_
  refine va_put (D := (dC, dI)) (ci := 1) (v := .int 0) (ty := .int) (C := rn_E) (T := tn_E) (N := 7) hx hb hw ml_E tt_E to_E nd_E hown hK hP hD hS 0 rfl rfl 4 (by decide) (hw _ mw_66) (fun _ h9 => h9) rfl (by decide +kernel) rfl rfl (Nat.le_of_ble_eq_true rfl) dn_E_goDown_7 (fun H locs hP hD hS => ?_)
  have hP : va_P (dC, dI) vwCl [(a0, .inr (1, [.ref a1, .ref a2, .ref a3, .int 0, .int 0, .int (nI fc), .int (nI b)])), (a1, .inl (cZ, 6, .inl X)), (a2, .inl (cI, 6, .inl Y)), (a3, .inl (cI, 6, .inl Z))] H := hP
  have hD : va_D A [(a0, .inr (1, [.ref a1, .ref a2, .ref a3, .int 0, .int 0, .int (nI fc), .int (nI b)])), (a1, .inl (cZ, 6, .inl X)), (a2, .inl (cI, 6, .inl Y)), (a3, .inl (cI, 6, .inl Z))] := hD
  refine lv_aload_n hx hb dn_E_goDown_10 rfl (lv_at hl 0 rfl) ?_
  refine lv_iload_n hx hb dn_E_goDown_11 rfl (lv_at hl 2 rfl) ?_
  refine va_put (D := (dC, dI)) (ci := 1) (v := .int (nI n)) (ty := .int) (C := rn_E) (T := tn_E) (N := 7) hx hb hw ml_E tt_E to_E nd_E hown hK hP hD hS 0 rfl rfl 5 (by decide) (hw _ mw_67) (fun _ h9 => h9) rfl (by decide +kernel) rfl rfl (Nat.le_of_ble_eq_true rfl) dn_E_goDown_12 (fun H locs hP hD hS => ?_)
  have hP : va_P (dC, dI) vwCl [(a0, .inr (1, [.ref a1, .ref a2, .ref a3, .int 0, .int 0, .int (nI n), .int (nI b)])), (a1, .inl (cZ, 6, .inl X)), (a2, .inl (cI, 6, .inl Y)), (a3, .inl (cI, 6, .inl Z))] H := hP
  have hD : va_D A [(a0, .inr (1, [.ref a1, .ref a2, .ref a3, .int 0, .int 0, .int (nI n), .int (nI b)])), (a1, .inl (cZ, 6, .inl X)), (a2, .inl (cI, 6, .inl Y)), (a3, .inl (cI, 6, .inl Z))] := hD
  refine lv_iconst (v := 0) hx hb dn_E_goDown_15 (by decide) ?_
  refine lv_istore (lv' := [(4, .int 0), (0, .ref a0), (1, .int (nI t)), (2, .int (nI n)), (3, .int 1)]) hx hb dn_E_goDown_16 hl (by decide) rfl (fun ls hl => ?_)
  have lp18 : ∀ (n_ : Nat) (s : Nat) (X : Nat → Int32) (Y : Nat → Int32) (Z : Nat → Int32) (ls : Array Slot) (H : Heap) (locs : List Loc), 6 - s = n_ → lv_has ls 6 [(0, .ref a0), (1, .int (nI t)), (2, .int (nI n)), (3, .int 1), (4, .int (nI s))] → va_P (dC, dI) vwCl [(a0, .inr (1, [.ref a1, .ref a2, .ref a3, .int (nI s), .int (nI ((ds_at t n s).1)), .int (nI ((ds_at t n s).2)), .int (nI b)])), (a1, .inl (cZ, 6, .inl X)), (a2, .inl (cI, 6, .inl Y)), (a3, .inl (cI, 6, .inl Z))] H → va_D A [(a0, .inr (1, [.ref a1, .ref a2, .ref a3, .int (nI s), .int (nI ((ds_at t n s).1)), .int (nI ((ds_at t n s).2)), .int (nI b)])), (a1, .inl (cZ, 6, .inl X)), (a2, .inl (cI, 6, .inl Y)), (a3, .inl (cI, 6, .inl Z))] → va_S A H0 H locs → (s ≤ 6) → (ds_run true t n s) → (de_ar t n s X Y Z) → W pp l ee (headSpec (gw yn_E_goDown cn_E_goDown 6 none) (rm_ 3 65)).room ss mm ar be me cd H locs 0 0 Q (F0 mm 18 ls []) := by
    intro n_
    induction n_ using Nat.strongRecOn with
    | ind n_ ih =>
      intro s X Y Z ls H locs hn_ hl hP hD hS hs6 hrun har
      obtain ⟨d1, d2, d3, -⟩ := ds_iv ht hn s hrun
      refine lv_iload hx hb dn_E_goDown_18 (lv_at hl 4 rfl) ?_
      refine lv_bipush (v := 6) hx hb dn_E_goDown_20 (by decide) ?_
      refine gr_cge (tgt := 88) hx hb s 6 rfl rfl (by omega) (by decide) dn_E_goDown_22 (by decide) (fun h22 => ?_) (fun h22 => ?_)
      · skip
        obtain rfl : 6 = s := by omega
        have he := ds_6 ht hn hrun
        exact hret (X, Y, Z, 6) _ _ _ _ ⟨⟨hrun, he⟩, har⟩ hP hD hS dn_E_goDown_88
      · skip
        refine lv_iload_n hx hb dn_E_goDown_25 rfl (lv_at hl 3 rfl) ?_
        refine lv_if_eq (tgt := 48) hx hb dn_E_goDown_26 (by decide) (fun h => absurd h (by decide)) (fun _ => ?_)
        refine lv_iload_n hx hb dn_E_goDown_29 rfl (lv_at hl 1 rfl) ?_
        refine lv_aload_n hx hb dn_E_goDown_30 rfl (lv_at hl 0 rfl) ?_
        refine va_get (D := (dC, dI)) (ci := 1) (v := .int (nI ((ds_at t n s).1))) (C := rn_E) (T := tn_E) (N := 7) hx hb hw ml_E hown hK hP 0 rfl rfl 4 (by decide) (hw _ mw_66) (fun _ h9 => h9) rfl dn_E_goDown_31 ?_
        refine lv_aload_n hx hb dn_E_goDown_34 rfl (lv_at hl 0 rfl) ?_
        refine va_get (D := (dC, dI)) (ci := 1) (v := .int (nI ((ds_at t n s).2))) (C := rn_E) (T := tn_E) (N := 7) hx hb hw ml_E hown hK hP 0 rfl rfl 5 (by decide) (hw _ mw_67) (fun _ h9 => h9) rfl dn_E_goDown_35 ?_
        refine gr_addN hx hb ((ds_at t n s).1) ((ds_at t n s).2) rfl rfl dn_E_goDown_38 ?_
        refine lv_iconst (v := 1) hx hb dn_E_goDown_39 (by decide) ?_
        refine gr_subN hx hb (((ds_at t n s).1) + ((ds_at t n s).2)) 1 rfl rfl (by omega) dn_E_goDown_40 ?_
        refine gr_cne (tgt := 48) hx hb t ((((ds_at t n s).1) + ((ds_at t n s).2)) - 1) rfl rfl (by omega) (by omega) dn_E_goDown_41 (by decide) (fun h41 => ?_) (fun h41 => ?_)
        · skip
          refine lv_iconst (v := 0) hx hb dn_E_goDown_48 (by decide) ?_
          refine lv_istore (lv' := [(5, .int 0), (0, .ref a0), (1, .int (nI t)), (2, .int (nI n)), (3, .int 1), (4, .int (nI s))]) hx hb dn_E_goDown_49 hl (by decide) rfl (fun ls hl => ?_)
          refine lv_aload_n hx hb dn_E_goDown_51 rfl (lv_at hl 1 rfl) ?_
          refine va_get (D := (dC, dI)) (ci := 1) (v := .int (nI ((ds_at t n s).2))) (C := rn_E) (T := tn_E) (N := 7) hx hb hw ml_E hown hK hP 0 rfl rfl 5 (by decide) (hw _ mw_67) (fun _ h9 => h9) rfl dn_E_goDown_52 ?_
          refine lv_iconst (v := 1) hx hb dn_E_goDown_55 (by decide) ?_
          refine gr_cle (tgt := 64) hx hb ((ds_at t n s).2) 1 rfl rfl (by omega) (by decide) dn_E_goDown_56 (by decide) (fun h56 => ?_) (fun h56 => ?_)
          · skip
            exact hret (X, Y, Z, s) _ _ _ _ ⟨⟨hrun, (by first | exact Or.inl h56 | exact Or.inr ⟨rfl, by show t + 1 = (ds_at t n s).1 + (ds_at t n s).2; omega⟩)⟩, har⟩ hP hD hS dn_E_goDown_64
          · skip
            refine lv_iload hx hb dn_E_goDown_59 (lv_at hl 0 rfl) ?_
            refine lv_if_eq (tgt := 65) hx hb dn_E_goDown_61 (by decide) (fun _ => ?_) (fun h => absurd h (by decide))
            refine lv_aload_n hx hb dn_E_goDown_65 rfl (lv_at hl 1 rfl) ?_
            refine lv_iload_n hx hb dn_E_goDown_66 rfl (lv_at hl 2 rfl) ?_
            refine lv_iload hx hb dn_E_goDown_67 (lv_at hl 5 rfl) ?_
            have hne : ¬ ds_end true t n s := (fun q => q.elim (fun q => absurd q (by omega)) (fun q => absurd q.2 (by omega)))
            refine gc_vv (pre := []) (wc := [(a0, .inr (1, [.ref a1, .ref a2, .ref a3, .int (nI s), .int (nI ((ds_at t n s).1)), .int (nI ((ds_at t n s).2)), .int (nI b)])), (a1, .inl (cZ, 6, .inl X)), (a2, .inl (cI, 6, .inl Y)), (a3, .inl (cI, 6, .inl Z))]) (po := []) (As := [.int (nI t), .int (nI s)]) (rest := []) ⟨hx, hb, hml, hown, hw⟩ (c_E_stepTowards l dC dI cI cZ a0 a1 a2 a3 X Y Z s ((ds_at t n s).1) ((ds_at t n s).2) b t s (by omega) (by omega) (by omega) (by omega) (by omega)) (gw_cV 2 hw mw_329 mw_331 mv_15 mw_4 mw_332 hd_E_stepTowards ⟨Nat.le_of_ble_eq_true rfl, Nat.le_of_ble_eq_true rfl⟩) (ci := 1) rfl rfl rfl hK hP hD hS hA rfl hl.1 rfl (Nat.le_of_ble_eq_true rfl) dn_E_goDown_69 ⟨Nat.zero_le _, Nat.zero_le _⟩ (fun u69 H locs hc69 hP hD hS => ?_)
            have hP : va_P (dC, dI) vwCl [(a0, .inr (1, [.ref a1, .ref a2, .ref a3, .int (nI s), .int (nI ((ds_nx t ((ds_at t n s).1) ((ds_at t n s).2)).1)), .int (nI ((ds_nx t ((ds_at t n s).1) ((ds_at t n s).2)).2)), .int (nI b)])), (a1, .inl (cZ, 6, .inl (upd X s (ds_r t ((ds_at t n s).1) ((ds_at t n s).2))))), (a2, .inl (cI, 6, .inl (upd Y s (nI (ds_f t ((ds_at t n s).1) ((ds_at t n s).2)))))), (a3, .inl (cI, 6, .inl (upd Z s (nI (ds_c t ((ds_at t n s).1) ((ds_at t n s).2))))))] H := hP
            have hD : va_D A [(a0, .inr (1, [.ref a1, .ref a2, .ref a3, .int (nI s), .int (nI ((ds_nx t ((ds_at t n s).1) ((ds_at t n s).2)).1)), .int (nI ((ds_nx t ((ds_at t n s).1) ((ds_at t n s).2)).2)), .int (nI b)])), (a1, .inl (cZ, 6, .inl (upd X s (ds_r t ((ds_at t n s).1) ((ds_at t n s).2))))), (a2, .inl (cI, 6, .inl (upd Y s (nI (ds_f t ((ds_at t n s).1) ((ds_at t n s).2)))))), (a3, .inl (cI, 6, .inl (upd Z s (nI (ds_c t ((ds_at t n s).1) ((ds_at t n s).2))))))] := hD
            refine lv_aload_n hx hb dn_E_goDown_72 rfl (lv_at hl 1 rfl) ?_
            refine lv_dup hx hb dn_E_goDown_73 rfl ?_
            refine va_get (D := (dC, dI)) (ci := 1) (v := .int (nI s)) (C := rn_E) (T := tn_E) (N := 7) hx hb hw ml_E hown hK hP 0 rfl rfl 3 (by decide) (hw _ mw_65) (fun _ h9 => h9) rfl dn_E_goDown_74 ?_
            refine lv_iconst (v := 1) hx hb dn_E_goDown_77 (by decide) ?_
            refine gr_addN hx hb s 1 rfl rfl dn_E_goDown_78 ?_
            refine va_put (D := (dC, dI)) (ci := 1) (v := .int (nI (s + 1))) (ty := .int) (C := rn_E) (T := tn_E) (N := 7) hx hb hw ml_E tt_E to_E nd_E hown hK hP hD hS 0 rfl rfl 3 (by decide) (hw _ mw_65) (fun _ h9 => h9) rfl (by decide +kernel) rfl rfl (Nat.le_of_ble_eq_true rfl) dn_E_goDown_79 (fun H locs hP hD hS => ?_)
            have hP : va_P (dC, dI) vwCl [(a0, .inr (1, [.ref a1, .ref a2, .ref a3, .int (nI (s + 1)), .int (nI ((ds_nx t ((ds_at t n s).1) ((ds_at t n s).2)).1)), .int (nI ((ds_nx t ((ds_at t n s).1) ((ds_at t n s).2)).2)), .int (nI b)])), (a1, .inl (cZ, 6, .inl (upd X s (ds_r t ((ds_at t n s).1) ((ds_at t n s).2))))), (a2, .inl (cI, 6, .inl (upd Y s (nI (ds_f t ((ds_at t n s).1) ((ds_at t n s).2)))))), (a3, .inl (cI, 6, .inl (upd Z s (nI (ds_c t ((ds_at t n s).1) ((ds_at t n s).2))))))] H := hP
            have hD : va_D A [(a0, .inr (1, [.ref a1, .ref a2, .ref a3, .int (nI (s + 1)), .int (nI ((ds_nx t ((ds_at t n s).1) ((ds_at t n s).2)).1)), .int (nI ((ds_nx t ((ds_at t n s).1) ((ds_at t n s).2)).2)), .int (nI b)])), (a1, .inl (cZ, 6, .inl (upd X s (ds_r t ((ds_at t n s).1) ((ds_at t n s).2))))), (a2, .inl (cI, 6, .inl (upd Y s (nI (ds_f t ((ds_at t n s).1) ((ds_at t n s).2)))))), (a3, .inl (cI, 6, .inl (upd Z s (nI (ds_c t ((ds_at t n s).1) ((ds_at t n s).2))))))] := hD
            refine lv_iinc (lv' := [(4, .int (nI (s + 1))), (5, .int 0), (0, .ref a0), (1, .int (nI t)), (2, .int (nI n)), (3, .int 1)]) (v := (nI (s + 1))) (k := 5) hx hb dn_E_goDown_82 hl rfl (nI_add s 1) (by decide) rfl (fun ls hl => ?_)
            refine lv_goto (tgt := 18) hx hb dn_E_goDown_85 (by decide) ?_
            exact ih (6 - (s + 1)) (by omega) (s + 1) (upd X s (ds_rt t n s)) (upd Y s (nI (ds_sf t n s))) (upd Z s (nI (ds_sc t n s))) ls H locs rfl (lv_sub hl [2, 3, 4, 5, 0] rfl) hP hD hS (by omega) (fun i hi => by rcases Nat.lt_or_ge i s with q | q; exact hrun i q; exact (show i = s by omega) ▸ hne) (de_ar_s har)
        · skip
          refine lv_iconst (v := 1) hx hb dn_E_goDown_44 (by decide) ?_
          refine lv_goto (tgt := 49) hx hb dn_E_goDown_45 (by decide) ?_
          refine lv_istore (lv' := [(5, .int 1), (0, .ref a0), (1, .int (nI t)), (2, .int (nI n)), (3, .int 1), (4, .int (nI s))]) hx hb dn_E_goDown_49 hl (by decide) rfl (fun ls hl => ?_)
          refine lv_aload_n hx hb dn_E_goDown_51 rfl (lv_at hl 1 rfl) ?_
          refine va_get (D := (dC, dI)) (ci := 1) (v := .int (nI ((ds_at t n s).2))) (C := rn_E) (T := tn_E) (N := 7) hx hb hw ml_E hown hK hP 0 rfl rfl 5 (by decide) (hw _ mw_67) (fun _ h9 => h9) rfl dn_E_goDown_52 ?_
          refine lv_iconst (v := 1) hx hb dn_E_goDown_55 (by decide) ?_
          refine gr_cle (tgt := 64) hx hb ((ds_at t n s).2) 1 rfl rfl (by omega) (by decide) dn_E_goDown_56 (by decide) (fun h56 => ?_) (fun h56 => ?_)
          · skip
            exact hret (X, Y, Z, s) _ _ _ _ ⟨⟨hrun, (by first | exact Or.inl h56 | exact Or.inr ⟨rfl, by show t + 1 = (ds_at t n s).1 + (ds_at t n s).2; omega⟩)⟩, har⟩ hP hD hS dn_E_goDown_64
          · skip
            refine lv_iload hx hb dn_E_goDown_59 (lv_at hl 0 rfl) ?_
            refine lv_if_eq (tgt := 65) hx hb dn_E_goDown_61 (by decide) (fun h => absurd h (by decide)) (fun _ => ?_)
            exact hret (X, Y, Z, s) _ _ _ _ ⟨⟨hrun, (by first | exact Or.inl h56 | exact Or.inr ⟨rfl, by show t + 1 = (ds_at t n s).1 + (ds_at t n s).2; omega⟩)⟩, har⟩ hP hD hS dn_E_goDown_64
  exact lp18 _ 0 X Y Z ls H locs rfl (lv_sub hl [1, 2, 3, 4, 0] rfl) hP hD hS (Nat.zero_le _) (fun i h => absurd h (Nat.not_lt_zero i)) (⟨fun i h => absurd h (Nat.not_lt_zero i), fun i h => absurd h (Nat.not_lt_zero i), fun i h => absurd h (Nat.not_lt_zero i)⟩)

set_option maxRecDepth 100000 in
set_option maxHeartbeats 4000000 in
theorem c_E_toLeaf (l : Launch) (dC : Nat → ClassId) (dI : Nat → Nat → Nat) (cI cZ : ClassId) (a0 a1 a2 a3 : Nat) (X Y Z : Nat → Int32) (st ff fc b t n : Nat) (ht : t < n) (hn : n ≤ 40) : gc_V l yn_E_toLeaf (gw yn_E_toLeaf cn_E_toLeaf 3 none) (rm_ 4 90) (dC, dI) vwCl (gT cI cZ) [.ref a0, .int (nI t), .int (nI n)] [(a0, .inr (1, [.ref a1, .ref a2, .ref a3, .int (nI st), .int (nI ff), .int (nI fc), .int (nI b)])), (a1, .inl (cZ, 6, .inl X)), (a2, .inl (cI, 6, .inl Y)), (a3, .inl (cI, 6, .inl Z))] (fun (u : (Nat → Int32) × (Nat → Int32) × (Nat → Int32) × Nat) => ds_is false t n u.2.2.2 ∧ de_ar t n u.2.2.2 u.1 u.2.1 u.2.2.1) (fun u => [(a0, .inr (1, [.ref a1, .ref a2, .ref a3, .int (nI u.2.2.2), .int (nI ((ds_at t n u.2.2.2).1)), .int (nI ((ds_at t n u.2.2.2).2)), .int (nI 1)])), (a1, .inl (cZ, 6, .inl u.1)), (a2, .inl (cI, 6, .inl u.2.1)), (a3, .inl (cI, 6, .inl u.2.2.1))]) := by
  refine gc_V_of (cc := cn_E_toLeaf) (maxL := 3) (by decide) rfl (Nat.le_of_ble_eq_true rfl) ?_
  intro pp ee ss mm ar be me cd A Q ls H0 H locs hx hb hml hown hts hK hP hD hS hA hl hret
  have hw : ∀ w ∈ gw_T, w.before ar ss = true := fun w h => hts w (List.mem_cons_of_mem _ h)
  have hl : lv_has ls 3 [(0, .ref a0), (1, .int (nI t)), (2, .int (nI n))] := hl
  refine lv_aload_n hx hb dn_E_toLeaf_0 rfl (lv_at hl 0 rfl) ?_
  refine lv_iload_n hx hb dn_E_toLeaf_1 rfl (lv_at hl 1 rfl) ?_
  refine lv_iload_n hx hb dn_E_toLeaf_2 rfl (lv_at hl 2 rfl) ?_
  refine lv_iconst (v := 0) hx hb dn_E_toLeaf_3 (by decide) ?_
  refine gc_vv (pre := []) (wc := [(a0, .inr (1, [.ref a1, .ref a2, .ref a3, .int (nI st), .int (nI ff), .int (nI fc), .int (nI b)])), (a1, .inl (cZ, 6, .inl X)), (a2, .inl (cI, 6, .inl Y)), (a3, .inl (cI, 6, .inl Z))]) (po := []) (As := [.int (nI t), .int (nI n), .int 0]) (rest := []) ⟨hx, hb, hml, hown, hw⟩ (c_E_goDown0 l dC dI cI cZ a0 a1 a2 a3 X Y Z st ff fc b t n (by omega) (by omega)) (gw_cV 3 hw mw_325 mw_327 mv_14 mw_4 mw_328 hd_E_goDown ⟨Nat.le_of_ble_eq_true rfl, Nat.le_of_ble_eq_true rfl⟩) (ci := 1) rfl rfl rfl hK hP hD hS hA rfl hl.1 rfl (Nat.le_of_ble_eq_true rfl) dn_E_toLeaf_4 ⟨Nat.zero_le _, Nat.zero_le _⟩ (fun u4 H locs hc4 hP hD hS => ?_)
  have hP : va_P (dC, dI) vwCl [(a0, .inr (1, [.ref a1, .ref a2, .ref a3, .int (nI u4.2.2.2), .int (nI ((ds_at t n u4.2.2.2).1)), .int (nI ((ds_at t n u4.2.2.2).2)), .int (nI b)])), (a1, .inl (cZ, 6, .inl u4.1)), (a2, .inl (cI, 6, .inl u4.2.1)), (a3, .inl (cI, 6, .inl u4.2.2.1))] H := hP
  have hD : va_D A [(a0, .inr (1, [.ref a1, .ref a2, .ref a3, .int (nI u4.2.2.2), .int (nI ((ds_at t n u4.2.2.2).1)), .int (nI ((ds_at t n u4.2.2.2).2)), .int (nI b)])), (a1, .inl (cZ, 6, .inl u4.1)), (a2, .inl (cI, 6, .inl u4.2.1)), (a3, .inl (cI, 6, .inl u4.2.2.1))] := hD
  refine lv_aload_n hx hb dn_E_toLeaf_7 rfl (lv_at hl 0 rfl) ?_
  refine lv_iconst (v := 1) hx hb dn_E_toLeaf_8 (by decide) ?_
  refine va_put (D := (dC, dI)) (ci := 1) (v := .int 1) (ty := .boolean) (C := rn_E) (T := tn_E) (N := 7) hx hb hw ml_E tt_E to_E nd_E hown hK hP hD hS 0 rfl rfl 6 (by decide) (hw _ mw_68) (fun _ h9 => h9) rfl (by decide +kernel) rfl rfl (Nat.le_of_ble_eq_true rfl) dn_E_toLeaf_9 (fun H locs hP hD hS => ?_)
  have hP : va_P (dC, dI) vwCl [(a0, .inr (1, [.ref a1, .ref a2, .ref a3, .int (nI u4.2.2.2), .int (nI ((ds_at t n u4.2.2.2).1)), .int (nI ((ds_at t n u4.2.2.2).2)), .int 1])), (a1, .inl (cZ, 6, .inl u4.1)), (a2, .inl (cI, 6, .inl u4.2.1)), (a3, .inl (cI, 6, .inl u4.2.2.1))] H := hP
  have hD : va_D A [(a0, .inr (1, [.ref a1, .ref a2, .ref a3, .int (nI u4.2.2.2), .int (nI ((ds_at t n u4.2.2.2).1)), .int (nI ((ds_at t n u4.2.2.2).2)), .int 1])), (a1, .inl (cZ, 6, .inl u4.1)), (a2, .inl (cI, 6, .inl u4.2.1)), (a3, .inl (cI, 6, .inl u4.2.2.1))] := hD
  exact hret u4 _ _ _ _ hc4 hP hD hS dn_E_toLeaf_12

set_option maxRecDepth 100000 in
set_option maxHeartbeats 4000000 in
theorem c_E_toEdge (l : Launch) (dC : Nat → ClassId) (dI : Nat → Nat → Nat) (cI cZ : ClassId) (a0 a1 a2 a3 : Nat) (X Y Z : Nat → Int32) (st ff fc b m n : Nat) (hm : 1 ≤ m) (hmn : m ≤ n) (hn : n ≤ 40) : gc_V l yn_E_toEdge (gw yn_E_toEdge cn_E_toEdge 3 none) (rm_ 4 90) (dC, dI) vwCl (gT cI cZ) [.ref a0, .int (nI m), .int (nI n)] [(a0, .inr (1, [.ref a1, .ref a2, .ref a3, .int (nI st), .int (nI ff), .int (nI fc), .int (nI b)])), (a1, .inl (cZ, 6, .inl X)), (a2, .inl (cI, 6, .inl Y)), (a3, .inl (cI, 6, .inl Z))] (fun (u : (Nat → Int32) × (Nat → Int32) × (Nat → Int32) × Nat) => ds_is true (m - 1) n u.2.2.2 ∧ de_ar (m - 1) n u.2.2.2 u.1 u.2.1 u.2.2.1) (fun u => [(a0, .inr (1, [.ref a1, .ref a2, .ref a3, .int (nI u.2.2.2), .int (nI ((ds_at (m - 1) n u.2.2.2).1)), .int (nI ((ds_at (m - 1) n u.2.2.2).2)), .int (nI (ds_b (ds_at (m - 1) n u.2.2.2).1))])), (a1, .inl (cZ, 6, .inl u.1)), (a2, .inl (cI, 6, .inl u.2.1)), (a3, .inl (cI, 6, .inl u.2.2.1))]) := by
  refine gc_V_of (cc := cn_E_toEdge) (maxL := 3) (by decide) rfl (Nat.le_of_ble_eq_true rfl) ?_
  intro pp ee ss mm ar be me cd A Q ls H0 H locs hx hb hml hown hts hK hP hD hS hA hl hret
  have hw : ∀ w ∈ gw_T, w.before ar ss = true := fun w h => hts w (List.mem_cons_of_mem _ h)
  have hl : lv_has ls 3 [(0, .ref a0), (1, .int (nI m)), (2, .int (nI n))] := hl
  refine lv_aload_n hx hb dn_E_toEdge_0 rfl (lv_at hl 0 rfl) ?_
  refine lv_iload_n hx hb dn_E_toEdge_1 rfl (lv_at hl 1 rfl) ?_
  refine lv_iconst (v := 1) hx hb dn_E_toEdge_2 (by decide) ?_
  refine gr_subN hx hb m 1 rfl rfl (by omega) dn_E_toEdge_3 ?_
  refine lv_iload_n hx hb dn_E_toEdge_4 rfl (lv_at hl 2 rfl) ?_
  refine lv_iconst (v := 1) hx hb dn_E_toEdge_5 (by decide) ?_
  refine gc_vv (pre := []) (wc := [(a0, .inr (1, [.ref a1, .ref a2, .ref a3, .int (nI st), .int (nI ff), .int (nI fc), .int (nI b)])), (a1, .inl (cZ, 6, .inl X)), (a2, .inl (cI, 6, .inl Y)), (a3, .inl (cI, 6, .inl Z))]) (po := []) (As := [.int (nI (m - 1)), .int (nI n), .int 1]) (rest := []) ⟨hx, hb, hml, hown, hw⟩ (c_E_goDown1 l dC dI cI cZ a0 a1 a2 a3 X Y Z st ff fc b (m - 1) n (by omega) (by omega)) (gw_cV 3 hw mw_325 mw_327 mv_14 mw_4 mw_328 hd_E_goDown ⟨Nat.le_of_ble_eq_true rfl, Nat.le_of_ble_eq_true rfl⟩) (ci := 1) rfl rfl rfl hK hP hD hS hA rfl hl.1 rfl (Nat.le_of_ble_eq_true rfl) dn_E_toEdge_6 ⟨Nat.zero_le _, Nat.zero_le _⟩ (fun u6 H locs hc6 hP hD hS => ?_)
  have hP : va_P (dC, dI) vwCl [(a0, .inr (1, [.ref a1, .ref a2, .ref a3, .int (nI u6.2.2.2), .int (nI ((ds_at (m - 1) n u6.2.2.2).1)), .int (nI ((ds_at (m - 1) n u6.2.2.2).2)), .int (nI b)])), (a1, .inl (cZ, 6, .inl u6.1)), (a2, .inl (cI, 6, .inl u6.2.1)), (a3, .inl (cI, 6, .inl u6.2.2.1))] H := hP
  have hD : va_D A [(a0, .inr (1, [.ref a1, .ref a2, .ref a3, .int (nI u6.2.2.2), .int (nI ((ds_at (m - 1) n u6.2.2.2).1)), .int (nI ((ds_at (m - 1) n u6.2.2.2).2)), .int (nI b)])), (a1, .inl (cZ, 6, .inl u6.1)), (a2, .inl (cI, 6, .inl u6.2.1)), (a3, .inl (cI, 6, .inl u6.2.2.1))] := hD
  obtain ⟨d1, d2, d3, -⟩ := ds_iv (show m - 1 < n by omega) hn _ hc6.1.1
  refine lv_aload_n hx hb dn_E_toEdge_9 rfl (lv_at hl 0 rfl) ?_
  refine lv_aload_n hx hb dn_E_toEdge_10 rfl (lv_at hl 0 rfl) ?_
  refine va_get (D := (dC, dI)) (ci := 1) (v := .int (nI ((ds_at (m - 1) n u6.2.2.2).1))) (C := rn_E) (T := tn_E) (N := 7) hx hb hw ml_E hown hK hP 0 rfl rfl 4 (by decide) (hw _ mw_66) (fun _ h9 => h9) rfl dn_E_toEdge_11 ?_
  refine gr_zle (tgt := 21) hx hb ((ds_at (m - 1) n u6.2.2.2).1) rfl (by omega) dn_E_toEdge_14 (by decide) (fun h14 => ?_) (fun h14 => ?_)
  · skip
    refine lv_iconst (v := 0) hx hb dn_E_toEdge_21 (by decide) ?_
    refine va_put (D := (dC, dI)) (ci := 1) (v := .int 0) (ty := .boolean) (C := rn_E) (T := tn_E) (N := 7) hx hb hw ml_E tt_E to_E nd_E hown hK hP hD hS 0 rfl rfl 6 (by decide) (hw _ mw_68) (fun _ h9 => h9) rfl (by decide +kernel) rfl rfl (Nat.le_of_ble_eq_true rfl) dn_E_toEdge_22 (fun H locs hP hD hS => ?_)
    have hP : va_P (dC, dI) vwCl [(a0, .inr (1, [.ref a1, .ref a2, .ref a3, .int (nI u6.2.2.2), .int (nI ((ds_at (m - 1) n u6.2.2.2).1)), .int (nI ((ds_at (m - 1) n u6.2.2.2).2)), .int 0])), (a1, .inl (cZ, 6, .inl u6.1)), (a2, .inl (cI, 6, .inl u6.2.1)), (a3, .inl (cI, 6, .inl u6.2.2.1))] H := hP
    have hD : va_D A [(a0, .inr (1, [.ref a1, .ref a2, .ref a3, .int (nI u6.2.2.2), .int (nI ((ds_at (m - 1) n u6.2.2.2).1)), .int (nI ((ds_at (m - 1) n u6.2.2.2).2)), .int 0])), (a1, .inl (cZ, 6, .inl u6.1)), (a2, .inl (cI, 6, .inl u6.2.1)), (a3, .inl (cI, 6, .inl u6.2.2.1))] := hD
    have hP : va_P (dC, dI) vwCl [(a0, .inr (1, [.ref a1, .ref a2, .ref a3, .int (nI u6.2.2.2), .int (nI ((ds_at (m - 1) n u6.2.2.2).1)), .int (nI ((ds_at (m - 1) n u6.2.2.2).2)), .int (nI (ds_b (ds_at (m - 1) n u6.2.2.2).1))])), (a1, .inl (cZ, 6, .inl u6.1)), (a2, .inl (cI, 6, .inl u6.2.1)), (a3, .inl (cI, 6, .inl u6.2.2.1))] H := by rw [show ds_b (ds_at (m - 1) n u6.2.2.2).1 = 0 from by unfold ds_b; first | rw [if_pos h14] | rw [if_neg (by omega)]]; exact hP
    have hD : va_D A [(a0, .inr (1, [.ref a1, .ref a2, .ref a3, .int (nI u6.2.2.2), .int (nI ((ds_at (m - 1) n u6.2.2.2).1)), .int (nI ((ds_at (m - 1) n u6.2.2.2).2)), .int (nI (ds_b (ds_at (m - 1) n u6.2.2.2).1))])), (a1, .inl (cZ, 6, .inl u6.1)), (a2, .inl (cI, 6, .inl u6.2.1)), (a3, .inl (cI, 6, .inl u6.2.2.1))] := by rw [show ds_b (ds_at (m - 1) n u6.2.2.2).1 = 0 from by unfold ds_b; first | rw [if_pos h14] | rw [if_neg (by omega)]]; exact hD
    exact hret u6 _ _ _ _ hc6 hP hD hS dn_E_toEdge_25
  · skip
    refine lv_iconst (v := 1) hx hb dn_E_toEdge_17 (by decide) ?_
    refine lv_goto (tgt := 22) hx hb dn_E_toEdge_18 (by decide) ?_
    refine va_put (D := (dC, dI)) (ci := 1) (v := .int 1) (ty := .boolean) (C := rn_E) (T := tn_E) (N := 7) hx hb hw ml_E tt_E to_E nd_E hown hK hP hD hS 0 rfl rfl 6 (by decide) (hw _ mw_68) (fun _ h9 => h9) rfl (by decide +kernel) rfl rfl (Nat.le_of_ble_eq_true rfl) dn_E_toEdge_22 (fun H locs hP hD hS => ?_)
    have hP : va_P (dC, dI) vwCl [(a0, .inr (1, [.ref a1, .ref a2, .ref a3, .int (nI u6.2.2.2), .int (nI ((ds_at (m - 1) n u6.2.2.2).1)), .int (nI ((ds_at (m - 1) n u6.2.2.2).2)), .int 1])), (a1, .inl (cZ, 6, .inl u6.1)), (a2, .inl (cI, 6, .inl u6.2.1)), (a3, .inl (cI, 6, .inl u6.2.2.1))] H := hP
    have hD : va_D A [(a0, .inr (1, [.ref a1, .ref a2, .ref a3, .int (nI u6.2.2.2), .int (nI ((ds_at (m - 1) n u6.2.2.2).1)), .int (nI ((ds_at (m - 1) n u6.2.2.2).2)), .int 1])), (a1, .inl (cZ, 6, .inl u6.1)), (a2, .inl (cI, 6, .inl u6.2.1)), (a3, .inl (cI, 6, .inl u6.2.2.1))] := hD
    have hP : va_P (dC, dI) vwCl [(a0, .inr (1, [.ref a1, .ref a2, .ref a3, .int (nI u6.2.2.2), .int (nI ((ds_at (m - 1) n u6.2.2.2).1)), .int (nI ((ds_at (m - 1) n u6.2.2.2).2)), .int (nI (ds_b (ds_at (m - 1) n u6.2.2.2).1))])), (a1, .inl (cZ, 6, .inl u6.1)), (a2, .inl (cI, 6, .inl u6.2.1)), (a3, .inl (cI, 6, .inl u6.2.2.1))] H := by rw [show ds_b (ds_at (m - 1) n u6.2.2.2).1 = 1 from by unfold ds_b; first | rw [if_pos h14] | rw [if_neg (by omega)]]; exact hP
    have hD : va_D A [(a0, .inr (1, [.ref a1, .ref a2, .ref a3, .int (nI u6.2.2.2), .int (nI ((ds_at (m - 1) n u6.2.2.2).1)), .int (nI ((ds_at (m - 1) n u6.2.2.2).2)), .int (nI (ds_b (ds_at (m - 1) n u6.2.2.2).1))])), (a1, .inl (cZ, 6, .inl u6.1)), (a2, .inl (cI, 6, .inl u6.2.1)), (a3, .inl (cI, 6, .inl u6.2.2.1))] := by rw [show ds_b (ds_at (m - 1) n u6.2.2.2).1 = 1 from by unfold ds_b; first | rw [if_pos h14] | rw [if_neg (by omega)]]; exact hD
    exact hret u6 _ _ _ _ hc6 hP hD hS dn_E_toEdge_25

set_option maxRecDepth 100000 in
set_option maxHeartbeats 4000000 in
theorem c_E_showsFoot (l : Launch) (dC : Nat → ClassId) (dI : Nat → Nat → Nat) (cI cZ : ClassId) (a0 a1 a2 a3 : Nat) (X Y Z : Nat → Int32) (st ff fc b : Nat) (hb1 : b ≤ 1) (hst : st ≤ 6)  : gc_I l yn_E_showsFoot (gw yn_E_showsFoot cn_E_showsFoot 1 (some .boolean)) (rm_ 0 0) (dC, dI) vwCl (gT cI cZ) [.ref a0] [(a0, .inr (1, [.ref a1, .ref a2, .ref a3, .int (nI st), .int (nI ff), .int (nI fc), .int (nI b)])), (a1, .inl (cZ, 6, .inl X)), (a2, .inl (cI, 6, .inl Y)), (a3, .inl (cI, 6, .inl Z))] (fun r (_ : Unit) => r = nI b) (fun _ => [(a0, .inr (1, [.ref a1, .ref a2, .ref a3, .int (nI st), .int (nI ff), .int (nI fc), .int (nI b)])), (a1, .inl (cZ, 6, .inl X)), (a2, .inl (cI, 6, .inl Y)), (a3, .inl (cI, 6, .inl Z))]) := by
  refine gc_I_of (cc := cn_E_showsFoot) (maxL := 1) (ty := .boolean) (by decide) rfl (Nat.le_of_ble_eq_true rfl) ?_
  intro pp ee ss mm ar be me cd A Q ls H0 H locs hx hb hml hown hts hK hP hD hS hA hl hret
  have hw : ∀ w ∈ gw_T, w.before ar ss = true := fun w h => hts w (List.mem_cons_of_mem _ h)
  have hl : lv_has ls 1 [(0, .ref a0)] := hl
  refine lv_aload_n hx hb dn_E_showsFoot_0 rfl (lv_at hl 0 rfl) ?_
  refine va_get (D := (dC, dI)) (ci := 1) (v := .int (nI b)) (C := rn_E) (T := tn_E) (N := 7) hx hb hw ml_E hown hK hP 0 rfl rfl 6 (by decide) (hw _ mw_68) (fun _ h9 => h9) rfl dn_E_showsFoot_1 ?_
  exact hret (nI b) () _ _ _ _ rfl (by rcases (show b = 0 ∨ b = 1 by omega) with rfl | rfl <;> rfl) hP hD hS dn_E_showsFoot_4

set_option maxRecDepth 100000 in
set_option maxHeartbeats 4000000 in
theorem c_E_digestCount (l : Launch) (dC : Nat → ClassId) (dI : Nat → Nat → Nat) (cI cZ : ClassId) (a0 a1 a2 a3 : Nat) (X Y Z : Nat → Int32) (st ff fc b : Nat) (hb1 : b ≤ 1) (hst : st ≤ 6)  : gc_I l yn_E_digestCount (gw yn_E_digestCount cn_E_digestCount 1 (some .int)) (rm_ 0 0) (dC, dI) vwCl (gT cI cZ) [.ref a0] [(a0, .inr (1, [.ref a1, .ref a2, .ref a3, .int (nI st), .int (nI ff), .int (nI fc), .int (nI b)])), (a1, .inl (cZ, 6, .inl X)), (a2, .inl (cI, 6, .inl Y)), (a3, .inl (cI, 6, .inl Z))] (fun r (_ : Unit) => r = nI (st + b)) (fun _ => [(a0, .inr (1, [.ref a1, .ref a2, .ref a3, .int (nI st), .int (nI ff), .int (nI fc), .int (nI b)])), (a1, .inl (cZ, 6, .inl X)), (a2, .inl (cI, 6, .inl Y)), (a3, .inl (cI, 6, .inl Z))]) := by
  refine gc_I_of (cc := cn_E_digestCount) (maxL := 1) (ty := .int) (by decide) rfl (Nat.le_of_ble_eq_true rfl) ?_
  intro pp ee ss mm ar be me cd A Q ls H0 H locs hx hb hml hown hts hK hP hD hS hA hl hret
  have hw : ∀ w ∈ gw_T, w.before ar ss = true := fun w h => hts w (List.mem_cons_of_mem _ h)
  have hl : lv_has ls 1 [(0, .ref a0)] := hl
  refine lv_aload_n hx hb dn_E_digestCount_0 rfl (lv_at hl 0 rfl) ?_
  refine va_get (D := (dC, dI)) (ci := 1) (v := .int (nI b)) (C := rn_E) (T := tn_E) (N := 7) hx hb hw ml_E hown hK hP 0 rfl rfl 6 (by decide) (hw _ mw_68) (fun _ h9 => h9) rfl dn_E_digestCount_1 ?_
  refine gr_zeq (tgt := 16) hx hb b rfl (by omega) dn_E_digestCount_4 (by decide) (fun h4 => ?_) (fun h4 => ?_)
  · skip
    refine lv_aload_n hx hb dn_E_digestCount_16 rfl (lv_at hl 0 rfl) ?_
    refine va_get (D := (dC, dI)) (ci := 1) (v := .int (nI st)) (C := rn_E) (T := tn_E) (N := 7) hx hb hw ml_E hown hK hP 0 rfl rfl 3 (by decide) (hw _ mw_65) (fun _ h9 => h9) rfl dn_E_digestCount_17 ?_
    exact hret (nI st) () _ _ _ _ (congrArg nI (by omega)) rfl hP hD hS dn_E_digestCount_20
  · skip
    refine lv_aload_n hx hb dn_E_digestCount_7 rfl (lv_at hl 0 rfl) ?_
    refine va_get (D := (dC, dI)) (ci := 1) (v := .int (nI st)) (C := rn_E) (T := tn_E) (N := 7) hx hb hw ml_E hown hK hP 0 rfl rfl 3 (by decide) (hw _ mw_65) (fun _ h9 => h9) rfl dn_E_digestCount_8 ?_
    refine lv_iconst (v := 1) hx hb dn_E_digestCount_11 (by decide) ?_
    refine gr_addN hx hb st 1 rfl rfl dn_E_digestCount_12 ?_
    refine lv_goto (tgt := 20) hx hb dn_E_digestCount_13 (by decide) ?_
    exact hret (nI (st + 1)) () _ _ _ _ (congrArg nI (by omega)) rfl hP hD hS dn_E_digestCount_20

set_option maxRecDepth 100000 in
set_option maxHeartbeats 4000000 in
theorem c_E_stepOf (l : Launch) (dC : Nat → ClassId) (dI : Nat → Nat → Nat) (cI cZ : ClassId) (a0 a1 a2 a3 : Nat) (X Y Z : Nat → Int32) (st ff fc b : Nat) (hb1 : b ≤ 1) (hst : st ≤ 6) (k s : Nat) (hks : s + 1 + k = st + b) : gc_I l yn_E_stepOf (gw yn_E_stepOf cn_E_stepOf 2 (some .int)) (rm_ 1 20) (dC, dI) vwCl (gT cI cZ) [.ref a0, .int (nI k)] [(a0, .inr (1, [.ref a1, .ref a2, .ref a3, .int (nI st), .int (nI ff), .int (nI fc), .int (nI b)])), (a1, .inl (cZ, 6, .inl X)), (a2, .inl (cI, 6, .inl Y)), (a3, .inl (cI, 6, .inl Z))] (fun r (_ : Unit) => r = nI s) (fun _ => [(a0, .inr (1, [.ref a1, .ref a2, .ref a3, .int (nI st), .int (nI ff), .int (nI fc), .int (nI b)])), (a1, .inl (cZ, 6, .inl X)), (a2, .inl (cI, 6, .inl Y)), (a3, .inl (cI, 6, .inl Z))]) := by
  refine gc_I_of (cc := cn_E_stepOf) (maxL := 2) (ty := .int) (by decide) rfl (Nat.le_of_ble_eq_true rfl) ?_
  intro pp ee ss mm ar be me cd A Q ls H0 H locs hx hb hml hown hts hK hP hD hS hA hl hret
  have hw : ∀ w ∈ gw_T, w.before ar ss = true := fun w h => hts w (List.mem_cons_of_mem _ h)
  have hl : lv_has ls 2 [(0, .ref a0), (1, .int (nI k))] := hl
  refine lv_aload_n hx hb dn_E_stepOf_0 rfl (lv_at hl 0 rfl) ?_
  refine gc_vi (pre := []) (wc := [(a0, .inr (1, [.ref a1, .ref a2, .ref a3, .int (nI st), .int (nI ff), .int (nI fc), .int (nI b)])), (a1, .inl (cZ, 6, .inl X)), (a2, .inl (cI, 6, .inl Y)), (a3, .inl (cI, 6, .inl Z))]) (po := []) (As := []) (rest := []) ⟨hx, hb, hml, hown, hw⟩ (c_E_digestCount l dC dI cI cZ a0 a1 a2 a3 X Y Z st ff fc b (by omega) (by omega) ) (gw_cV 0 hw mw_357 mw_346 mw_347 mw_4 mw_348 hd_E_digestCount ⟨Nat.le_of_ble_eq_true rfl, Nat.le_of_ble_eq_true rfl⟩) (ci := 1) rfl rfl rfl hK hP hD hS hA rfl hl.1 rfl (Nat.le_of_ble_eq_true rfl) dn_E_stepOf_1 ⟨Nat.zero_le _, Nat.zero_le _⟩ (fun r1 u1 H locs hc1 hP hD hS => ?_)
  subst hc1
  have hP : va_P (dC, dI) vwCl [(a0, .inr (1, [.ref a1, .ref a2, .ref a3, .int (nI st), .int (nI ff), .int (nI fc), .int (nI b)])), (a1, .inl (cZ, 6, .inl X)), (a2, .inl (cI, 6, .inl Y)), (a3, .inl (cI, 6, .inl Z))] H := hP
  have hD : va_D A [(a0, .inr (1, [.ref a1, .ref a2, .ref a3, .int (nI st), .int (nI ff), .int (nI fc), .int (nI b)])), (a1, .inl (cZ, 6, .inl X)), (a2, .inl (cI, 6, .inl Y)), (a3, .inl (cI, 6, .inl Z))] := hD
  refine lv_iconst (v := 1) hx hb dn_E_stepOf_4 (by decide) ?_
  refine gr_subN hx hb (st + b) 1 rfl rfl (by omega) dn_E_stepOf_5 ?_
  refine lv_iload_n hx hb dn_E_stepOf_6 rfl (lv_at hl 1 rfl) ?_
  refine gr_subN hx hb ((st + b) - 1) k rfl rfl (by omega) dn_E_stepOf_7 ?_
  exact hret (nI (((st + b) - 1) - k)) () _ _ _ _ (congrArg nI (by omega)) rfl hP hD hS dn_E_stepOf_8
end
section
def pf_x (fd : Nat → Int32) (e : Int32) : Nat → Int32
  | 0 => e
  | _ + 1 => fd 0

theorem dn_F_add_0 : decode cn_F_add 0 = .ok (.aload_n 0, 1) := by decide +kernel
theorem dn_F_add_1 : decode cn_F_add 1 = .ok (.getfield 13, 3) := by decide +kernel
theorem dn_F_add_4 : decode cn_F_add 4 = .ok (.bipush 12, 2) := by decide +kernel
theorem dn_F_add_6 : decode cn_F_add 6 = .ok (.if_icmp .lt 5, 3) := by decide +kernel
theorem dn_F_add_9 : decode cn_F_add 9 = .ok (.iconst 0, 1) := by decide +kernel
theorem dn_F_add_10 : decode cn_F_add 10 = .ok (.ireturn, 1) := by decide +kernel
theorem dn_F_add_11 : decode cn_F_add 11 = .ok (.aload_n 0, 1) := by decide +kernel
theorem dn_F_add_12 : decode cn_F_add 12 = .ok (.getfield 9, 3) := by decide +kernel
theorem dn_F_add_15 : decode cn_F_add 15 = .ok (.aload_n 0, 1) := by decide +kernel
theorem dn_F_add_16 : decode cn_F_add 16 = .ok (.getfield 13, 3) := by decide +kernel
theorem dn_F_add_19 : decode cn_F_add 19 = .ok (.iload_n 1, 1) := by decide +kernel
theorem dn_F_add_20 : decode cn_F_add 20 = .ok (.iastore, 1) := by decide +kernel
theorem dn_F_add_21 : decode cn_F_add 21 = .ok (.aload_n 0, 1) := by decide +kernel
theorem dn_F_add_22 : decode cn_F_add 22 = .ok (.dup, 1) := by decide +kernel
theorem dn_F_add_23 : decode cn_F_add 23 = .ok (.getfield 13, 3) := by decide +kernel
theorem dn_F_add_26 : decode cn_F_add 26 = .ok (.iconst 1, 1) := by decide +kernel
theorem dn_F_add_27 : decode cn_F_add 27 = .ok (.iadd, 1) := by decide +kernel
theorem dn_F_add_28 : decode cn_F_add 28 = .ok (.putfield 13, 3) := by decide +kernel
theorem dn_F_add_31 : decode cn_F_add 31 = .ok (.iconst 1, 1) := by decide +kernel
theorem dn_F_add_32 : decode cn_F_add 32 = .ok (.ireturn, 1) := by decide +kernel
theorem dn_F_clear_0 : decode cn_F_clear 0 = .ok (.aload_n 0, 1) := by decide +kernel
theorem dn_F_clear_1 : decode cn_F_clear 1 = .ok (.iconst 0, 1) := by decide +kernel
theorem dn_F_clear_2 : decode cn_F_clear 2 = .ok (.putfield 13, 3) := by decide +kernel
theorem dn_F_clear_5 : decode cn_F_clear 5 = .ok (.return_, 1) := by decide +kernel
theorem dn_F_proveLeaf_0 : decode cn_F_proveLeaf 0 = .ok (.aload_n 0, 1) := by decide +kernel
theorem dn_F_proveLeaf_1 : decode cn_F_proveLeaf 1 = .ok (.getfield 13, 3) := by decide +kernel
theorem dn_F_proveLeaf_4 : decode cn_F_proveLeaf 4 = .ok (.aload_n 1, 1) := by decide +kernel
theorem dn_F_proveLeaf_5 : decode cn_F_proveLeaf 5 = .ok (.invokevirtual 17, 3) := by decide +kernel
theorem dn_F_proveLeaf_8 : decode cn_F_proveLeaf 8 = .ok (.if_icmp .eq 5, 3) := by decide +kernel
theorem dn_F_proveLeaf_11 : decode cn_F_proveLeaf 11 = .ok (.iconst 0, 1) := by decide +kernel
theorem dn_F_proveLeaf_12 : decode cn_F_proveLeaf 12 = .ok (.ireturn, 1) := by decide +kernel
theorem dn_F_proveLeaf_13 : decode cn_F_proveLeaf 13 = .ok (.aload_n 0, 1) := by decide +kernel
theorem dn_F_proveLeaf_14 : decode cn_F_proveLeaf 14 = .ok (.getfield 9, 3) := by decide +kernel
theorem dn_F_proveLeaf_17 : decode cn_F_proveLeaf 17 = .ok (.iconst 0, 1) := by decide +kernel
theorem dn_F_proveLeaf_18 : decode cn_F_proveLeaf 18 = .ok (.iaload, 1) := by decide +kernel
theorem dn_F_proveLeaf_19 : decode cn_F_proveLeaf 19 = .ok (.istore_n 3, 1) := by decide +kernel
theorem dn_F_proveLeaf_20 : decode cn_F_proveLeaf 20 = .ok (.iconst 1, 1) := by decide +kernel
theorem dn_F_proveLeaf_21 : decode cn_F_proveLeaf 21 = .ok (.istore 4, 2) := by decide +kernel
theorem dn_F_proveLeaf_23 : decode cn_F_proveLeaf 23 = .ok (.iload 4, 2) := by decide +kernel
theorem dn_F_proveLeaf_25 : decode cn_F_proveLeaf 25 = .ok (.aload_n 0, 1) := by decide +kernel
theorem dn_F_proveLeaf_26 : decode cn_F_proveLeaf 26 = .ok (.getfield 13, 3) := by decide +kernel
theorem dn_F_proveLeaf_29 : decode cn_F_proveLeaf 29 = .ok (.if_icmp .ge 44, 3) := by decide +kernel
theorem dn_F_proveLeaf_32 : decode cn_F_proveLeaf 32 = .ok (.aload_n 1, 1) := by decide +kernel
theorem dn_F_proveLeaf_33 : decode cn_F_proveLeaf 33 = .ok (.iload 4, 2) := by decide +kernel
theorem dn_F_proveLeaf_35 : decode cn_F_proveLeaf 35 = .ok (.invokevirtual 23, 3) := by decide +kernel
theorem dn_F_proveLeaf_38 : decode cn_F_proveLeaf 38 = .ok (.ifCond .eq 17, 3) := by decide +kernel
theorem dn_F_proveLeaf_41 : decode cn_F_proveLeaf 41 = .ok (.aload_n 0, 1) := by decide +kernel
theorem dn_F_proveLeaf_42 : decode cn_F_proveLeaf 42 = .ok (.getfield 9, 3) := by decide +kernel
theorem dn_F_proveLeaf_45 : decode cn_F_proveLeaf 45 = .ok (.iload 4, 2) := by decide +kernel
theorem dn_F_proveLeaf_47 : decode cn_F_proveLeaf 47 = .ok (.iaload, 1) := by decide +kernel
theorem dn_F_proveLeaf_48 : decode cn_F_proveLeaf 48 = .ok (.iload_n 3, 1) := by decide +kernel
theorem dn_F_proveLeaf_49 : decode cn_F_proveLeaf 49 = .ok (.invokestatic 27, 3) := by decide +kernel
theorem dn_F_proveLeaf_52 : decode cn_F_proveLeaf 52 = .ok (.goto 14, 3) := by decide +kernel
theorem dn_F_proveLeaf_55 : decode cn_F_proveLeaf 55 = .ok (.iload_n 3, 1) := by decide +kernel
theorem dn_F_proveLeaf_56 : decode cn_F_proveLeaf 56 = .ok (.aload_n 0, 1) := by decide +kernel
theorem dn_F_proveLeaf_57 : decode cn_F_proveLeaf 57 = .ok (.getfield 9, 3) := by decide +kernel
theorem dn_F_proveLeaf_60 : decode cn_F_proveLeaf 60 = .ok (.iload 4, 2) := by decide +kernel
theorem dn_F_proveLeaf_62 : decode cn_F_proveLeaf 62 = .ok (.iaload, 1) := by decide +kernel
theorem dn_F_proveLeaf_63 : decode cn_F_proveLeaf 63 = .ok (.invokestatic 27, 3) := by decide +kernel
theorem dn_F_proveLeaf_66 : decode cn_F_proveLeaf 66 = .ok (.istore_n 3, 1) := by decide +kernel
theorem dn_F_proveLeaf_67 : decode cn_F_proveLeaf 67 = .ok (.iinc 4 1, 3) := by decide +kernel
theorem dn_F_proveLeaf_70 : decode cn_F_proveLeaf 70 = .ok (.goto (-47), 3) := by decide +kernel
theorem dn_F_proveLeaf_73 : decode cn_F_proveLeaf 73 = .ok (.iload_n 3, 1) := by decide +kernel
theorem dn_F_proveLeaf_74 : decode cn_F_proveLeaf 74 = .ok (.iload_n 2, 1) := by decide +kernel
theorem dn_F_proveLeaf_75 : decode cn_F_proveLeaf 75 = .ok (.if_icmp .ne 7, 3) := by decide +kernel
theorem dn_F_proveLeaf_78 : decode cn_F_proveLeaf 78 = .ok (.iconst 1, 1) := by decide +kernel
theorem dn_F_proveLeaf_79 : decode cn_F_proveLeaf 79 = .ok (.goto 4, 3) := by decide +kernel
theorem dn_F_proveLeaf_82 : decode cn_F_proveLeaf 82 = .ok (.iconst 0, 1) := by decide +kernel
theorem dn_F_proveLeaf_83 : decode cn_F_proveLeaf 83 = .ok (.ireturn, 1) := by decide +kernel
theorem dn_F_proveGrowth_0 : decode cn_F_proveGrowth 0 = .ok (.aload_n 0, 1) := by decide +kernel
theorem dn_F_proveGrowth_1 : decode cn_F_proveGrowth 1 = .ok (.getfield 13, 3) := by decide +kernel
theorem dn_F_proveGrowth_4 : decode cn_F_proveGrowth 4 = .ok (.aload_n 1, 1) := by decide +kernel
theorem dn_F_proveGrowth_5 : decode cn_F_proveGrowth 5 = .ok (.invokevirtual 17, 3) := by decide +kernel
theorem dn_F_proveGrowth_8 : decode cn_F_proveGrowth 8 = .ok (.if_icmp .eq 5, 3) := by decide +kernel
theorem dn_F_proveGrowth_11 : decode cn_F_proveGrowth 11 = .ok (.iconst 0, 1) := by decide +kernel
theorem dn_F_proveGrowth_12 : decode cn_F_proveGrowth 12 = .ok (.ireturn, 1) := by decide +kernel
theorem dn_F_proveGrowth_13 : decode cn_F_proveGrowth 13 = .ok (.aload_n 1, 1) := by decide +kernel
theorem dn_F_proveGrowth_14 : decode cn_F_proveGrowth 14 = .ok (.invokevirtual 33, 3) := by decide +kernel
theorem dn_F_proveGrowth_17 : decode cn_F_proveGrowth 17 = .ok (.ifCond .eq 12, 3) := by decide +kernel
theorem dn_F_proveGrowth_20 : decode cn_F_proveGrowth 20 = .ok (.aload_n 0, 1) := by decide +kernel
theorem dn_F_proveGrowth_21 : decode cn_F_proveGrowth 21 = .ok (.getfield 9, 3) := by decide +kernel
theorem dn_F_proveGrowth_24 : decode cn_F_proveGrowth 24 = .ok (.iconst 0, 1) := by decide +kernel
theorem dn_F_proveGrowth_25 : decode cn_F_proveGrowth 25 = .ok (.iaload, 1) := by decide +kernel
theorem dn_F_proveGrowth_26 : decode cn_F_proveGrowth 26 = .ok (.goto 4, 3) := by decide +kernel
theorem dn_F_proveGrowth_29 : decode cn_F_proveGrowth 29 = .ok (.iload_n 2, 1) := by decide +kernel
theorem dn_F_proveGrowth_30 : decode cn_F_proveGrowth 30 = .ok (.istore 4, 2) := by decide +kernel
theorem dn_F_proveGrowth_32 : decode cn_F_proveGrowth 32 = .ok (.iload 4, 2) := by decide +kernel
theorem dn_F_proveGrowth_34 : decode cn_F_proveGrowth 34 = .ok (.istore 5, 2) := by decide +kernel
theorem dn_F_proveGrowth_36 : decode cn_F_proveGrowth 36 = .ok (.iload 4, 2) := by decide +kernel
theorem dn_F_proveGrowth_38 : decode cn_F_proveGrowth 38 = .ok (.istore 6, 2) := by decide +kernel
theorem dn_F_proveGrowth_40 : decode cn_F_proveGrowth 40 = .ok (.aload_n 1, 1) := by decide +kernel
theorem dn_F_proveGrowth_41 : decode cn_F_proveGrowth 41 = .ok (.invokevirtual 33, 3) := by decide +kernel
theorem dn_F_proveGrowth_44 : decode cn_F_proveGrowth 44 = .ok (.ifCond .eq 7, 3) := by decide +kernel
theorem dn_F_proveGrowth_47 : decode cn_F_proveGrowth 47 = .ok (.iconst 1, 1) := by decide +kernel
theorem dn_F_proveGrowth_48 : decode cn_F_proveGrowth 48 = .ok (.goto 4, 3) := by decide +kernel
theorem dn_F_proveGrowth_51 : decode cn_F_proveGrowth 51 = .ok (.iconst 0, 1) := by decide +kernel
theorem dn_F_proveGrowth_52 : decode cn_F_proveGrowth 52 = .ok (.istore 7, 2) := by decide +kernel
theorem dn_F_proveGrowth_54 : decode cn_F_proveGrowth 54 = .ok (.iload 7, 2) := by decide +kernel
theorem dn_F_proveGrowth_56 : decode cn_F_proveGrowth 56 = .ok (.aload_n 0, 1) := by decide +kernel
theorem dn_F_proveGrowth_57 : decode cn_F_proveGrowth 57 = .ok (.getfield 13, 3) := by decide +kernel
theorem dn_F_proveGrowth_60 : decode cn_F_proveGrowth 60 = .ok (.if_icmp .ge 63, 3) := by decide +kernel
theorem dn_F_proveGrowth_63 : decode cn_F_proveGrowth 63 = .ok (.aload_n 1, 1) := by decide +kernel
theorem dn_F_proveGrowth_64 : decode cn_F_proveGrowth 64 = .ok (.iload 7, 2) := by decide +kernel
theorem dn_F_proveGrowth_66 : decode cn_F_proveGrowth 66 = .ok (.invokevirtual 23, 3) := by decide +kernel
theorem dn_F_proveGrowth_69 : decode cn_F_proveGrowth 69 = .ok (.ifCond .eq 34, 3) := by decide +kernel
theorem dn_F_proveGrowth_72 : decode cn_F_proveGrowth 72 = .ok (.aload_n 0, 1) := by decide +kernel
theorem dn_F_proveGrowth_73 : decode cn_F_proveGrowth 73 = .ok (.getfield 9, 3) := by decide +kernel
theorem dn_F_proveGrowth_76 : decode cn_F_proveGrowth 76 = .ok (.iload 7, 2) := by decide +kernel
theorem dn_F_proveGrowth_78 : decode cn_F_proveGrowth 78 = .ok (.iaload, 1) := by decide +kernel
theorem dn_F_proveGrowth_79 : decode cn_F_proveGrowth 79 = .ok (.iload 5, 2) := by decide +kernel
theorem dn_F_proveGrowth_81 : decode cn_F_proveGrowth 81 = .ok (.invokestatic 27, 3) := by decide +kernel
theorem dn_F_proveGrowth_84 : decode cn_F_proveGrowth 84 = .ok (.istore 5, 2) := by decide +kernel
theorem dn_F_proveGrowth_86 : decode cn_F_proveGrowth 86 = .ok (.aload_n 0, 1) := by decide +kernel
theorem dn_F_proveGrowth_87 : decode cn_F_proveGrowth 87 = .ok (.getfield 9, 3) := by decide +kernel
theorem dn_F_proveGrowth_90 : decode cn_F_proveGrowth 90 = .ok (.iload 7, 2) := by decide +kernel
theorem dn_F_proveGrowth_92 : decode cn_F_proveGrowth 92 = .ok (.iaload, 1) := by decide +kernel
theorem dn_F_proveGrowth_93 : decode cn_F_proveGrowth 93 = .ok (.iload 6, 2) := by decide +kernel
theorem dn_F_proveGrowth_95 : decode cn_F_proveGrowth 95 = .ok (.invokestatic 27, 3) := by decide +kernel
theorem dn_F_proveGrowth_98 : decode cn_F_proveGrowth 98 = .ok (.istore 6, 2) := by decide +kernel
theorem dn_F_proveGrowth_100 : decode cn_F_proveGrowth 100 = .ok (.goto 17, 3) := by decide +kernel
theorem dn_F_proveGrowth_103 : decode cn_F_proveGrowth 103 = .ok (.iload 6, 2) := by decide +kernel
theorem dn_F_proveGrowth_105 : decode cn_F_proveGrowth 105 = .ok (.aload_n 0, 1) := by decide +kernel
theorem dn_F_proveGrowth_106 : decode cn_F_proveGrowth 106 = .ok (.getfield 9, 3) := by decide +kernel
theorem dn_F_proveGrowth_109 : decode cn_F_proveGrowth 109 = .ok (.iload 7, 2) := by decide +kernel
theorem dn_F_proveGrowth_111 : decode cn_F_proveGrowth 111 = .ok (.iaload, 1) := by decide +kernel
theorem dn_F_proveGrowth_112 : decode cn_F_proveGrowth 112 = .ok (.invokestatic 27, 3) := by decide +kernel
theorem dn_F_proveGrowth_115 : decode cn_F_proveGrowth 115 = .ok (.istore 6, 2) := by decide +kernel
theorem dn_F_proveGrowth_117 : decode cn_F_proveGrowth 117 = .ok (.iinc 7 1, 3) := by decide +kernel
theorem dn_F_proveGrowth_120 : decode cn_F_proveGrowth 120 = .ok (.goto (-66), 3) := by decide +kernel
theorem dn_F_proveGrowth_123 : decode cn_F_proveGrowth 123 = .ok (.iload 5, 2) := by decide +kernel
theorem dn_F_proveGrowth_125 : decode cn_F_proveGrowth 125 = .ok (.iload_n 2, 1) := by decide +kernel
theorem dn_F_proveGrowth_126 : decode cn_F_proveGrowth 126 = .ok (.if_icmp .ne 13, 3) := by decide +kernel
theorem dn_F_proveGrowth_129 : decode cn_F_proveGrowth 129 = .ok (.iload 6, 2) := by decide +kernel
theorem dn_F_proveGrowth_131 : decode cn_F_proveGrowth 131 = .ok (.iload_n 3, 1) := by decide +kernel
theorem dn_F_proveGrowth_132 : decode cn_F_proveGrowth 132 = .ok (.if_icmp .ne 7, 3) := by decide +kernel
theorem dn_F_proveGrowth_135 : decode cn_F_proveGrowth 135 = .ok (.iconst 1, 1) := by decide +kernel
theorem dn_F_proveGrowth_136 : decode cn_F_proveGrowth 136 = .ok (.goto 4, 3) := by decide +kernel
theorem dn_F_proveGrowth_139 : decode cn_F_proveGrowth 139 = .ok (.iconst 0, 1) := by decide +kernel
theorem dn_F_proveGrowth_140 : decode cn_F_proveGrowth 140 = .ok (.ireturn, 1) := by decide +kernel

set_option maxRecDepth 100000 in
set_option maxHeartbeats 4000000 in
theorem c_E_firstUnder (l : Launch) (dC : Nat → ClassId) (dI : Nat → Nat → Nat) (cI cZ : ClassId) (a0 a1 a2 a3 : Nat) (X Y Z : Nat → Int32) (t n st b : Nat) (hb1 : b ≤ 1) (hst : st ≤ 6) (har : de_ar t n st X Y Z) (k : Nat) (hk : k < st + b) : gc_I l yn_E_firstUnder (gw yn_E_firstUnder cn_E_firstUnder 3 (some .int)) (rm_ 2 41) (dC, dI) vwCl (gT cI cZ) [.ref a0, .int (nI k)] [(a0, .inr (1, [.ref a1, .ref a2, .ref a3, .int (nI st), .int (nI ((ds_at t n st).1)), .int (nI ((ds_at t n st).2)), .int (nI b)])), (a1, .inl (cZ, 6, .inl X)), (a2, .inl (cI, 6, .inl Y)), (a3, .inl (cI, 6, .inl Z))] (fun r (_ : Unit) => r = nI (du_f t n st b k)) (fun _ => [(a0, .inr (1, [.ref a1, .ref a2, .ref a3, .int (nI st), .int (nI ((ds_at t n st).1)), .int (nI ((ds_at t n st).2)), .int (nI b)])), (a1, .inl (cZ, 6, .inl X)), (a2, .inl (cI, 6, .inl Y)), (a3, .inl (cI, 6, .inl Z))]) := by
  refine gc_I_of (cc := cn_E_firstUnder) (maxL := 3) (ty := .int) (by decide) rfl (Nat.le_of_ble_eq_true rfl) ?_
  intro pp ee ss mm ar be me cd A Q ls H0 H locs hx hb hml hown hts hK hP hD hS hA hl hret
  have hw : ∀ w ∈ gw_T, w.before ar ss = true := fun w h => hts w (List.mem_cons_of_mem _ h)
  have hl : lv_has ls 3 [(0, .ref a0), (1, .int (nI k))] := hl
  refine lv_aload_n hx hb dn_E_firstUnder_0 rfl (lv_at hl 0 rfl) ?_
  refine lv_iload_n hx hb dn_E_firstUnder_1 rfl (lv_at hl 1 rfl) ?_
  refine gc_vi (pre := []) (wc := [(a0, .inr (1, [.ref a1, .ref a2, .ref a3, .int (nI st), .int (nI ((ds_at t n st).1)), .int (nI ((ds_at t n st).2)), .int (nI b)])), (a1, .inl (cZ, 6, .inl X)), (a2, .inl (cI, 6, .inl Y)), (a3, .inl (cI, 6, .inl Z))]) (po := []) (As := [.int (nI k)]) (rest := []) ⟨hx, hb, hml, hown, hw⟩ (c_E_stepOf l dC dI cI cZ a0 a1 a2 a3 X Y Z st ((ds_at t n st).1) ((ds_at t n st).2) b (by omega) (by omega) k (st + b - 1 - k) (by omega)) (gw_cV 1 hw mw_353 mw_355 mv_17 mw_4 mw_356 hd_E_stepOf ⟨Nat.le_of_ble_eq_true rfl, Nat.le_of_ble_eq_true rfl⟩) (ci := 1) rfl rfl rfl hK hP hD hS hA rfl hl.1 rfl (Nat.le_of_ble_eq_true rfl) dn_E_firstUnder_2 ⟨Nat.zero_le _, Nat.zero_le _⟩ (fun r2 u2 H locs hc2 hP hD hS => ?_)
  subst hc2
  have hP : va_P (dC, dI) vwCl [(a0, .inr (1, [.ref a1, .ref a2, .ref a3, .int (nI st), .int (nI ((ds_at t n st).1)), .int (nI ((ds_at t n st).2)), .int (nI b)])), (a1, .inl (cZ, 6, .inl X)), (a2, .inl (cI, 6, .inl Y)), (a3, .inl (cI, 6, .inl Z))] H := hP
  have hD : va_D A [(a0, .inr (1, [.ref a1, .ref a2, .ref a3, .int (nI st), .int (nI ((ds_at t n st).1)), .int (nI ((ds_at t n st).2)), .int (nI b)])), (a1, .inl (cZ, 6, .inl X)), (a2, .inl (cI, 6, .inl Y)), (a3, .inl (cI, 6, .inl Z))] := hD
  refine lv_istore_n (lv' := [(2, .int (nI (st + b - 1 - k))), (0, .ref a0), (1, .int (nI k))]) hx hb dn_E_firstUnder_5 rfl hl (by decide) rfl (fun ls hl => ?_)
  refine lv_iconst (v := 0) hx hb dn_E_firstUnder_6 (by decide) ?_
  refine lv_iload_n hx hb dn_E_firstUnder_7 rfl (lv_at hl 0 rfl) ?_
  refine gr_cgt (tgt := 28) hx hb 0 (st + b - 1 - k) rfl rfl (by decide) (by omega) dn_E_firstUnder_8 (by decide) (fun h8 => absurd h8 (by omega)) (fun h8 => ?_)
  refine lv_iload_n hx hb dn_E_firstUnder_11 rfl (lv_at hl 0 rfl) ?_
  refine lv_aload_n hx hb dn_E_firstUnder_12 rfl (lv_at hl 1 rfl) ?_
  refine va_get (D := (dC, dI)) (ci := 1) (v := .int (nI st)) (C := rn_E) (T := tn_E) (N := 7) hx hb hw ml_E hown hK hP 0 rfl rfl 3 (by decide) (hw _ mw_65) (fun _ h9 => h9) rfl dn_E_firstUnder_13 ?_
  refine gr_cge (tgt := 28) hx hb (st + b - 1 - k) st rfl rfl (by omega) (by omega) dn_E_firstUnder_16 (by decide) (fun h16 => ?_) (fun h16 => ?_)
  · skip
    refine lv_aload_n hx hb dn_E_firstUnder_28 rfl (lv_at hl 1 rfl) ?_
    refine va_get (D := (dC, dI)) (ci := 1) (v := .int (nI ((ds_at t n st).1))) (C := rn_E) (T := tn_E) (N := 7) hx hb hw ml_E hown hK hP 0 rfl rfl 4 (by decide) (hw _ mw_66) (fun _ h9 => h9) rfl dn_E_firstUnder_29 ?_
    exact hret (nI ((ds_at t n st).1)) () _ _ _ _ (by unfold du_f; first | rw [if_pos h16] | rw [if_neg (by omega)]) rfl hP hD hS dn_E_firstUnder_32
  · skip
    refine lv_aload_n hx hb dn_E_firstUnder_19 rfl (lv_at hl 1 rfl) ?_
    refine va_get (D := (dC, dI)) (ci := 1) (v := .ref a2) (C := rn_E) (T := tn_E) (N := 7) hx hb hw ml_E hown hK hP 0 rfl rfl 1 (by decide) (hw _ mw_63) (fun _ h9 => h9) rfl dn_E_firstUnder_20 ?_
    refine lv_iload_n hx hb dn_E_firstUnder_23 rfl (lv_at hl 0 rfl) ?_
    refine gr_iald hx hb hK hP 2 0 rfl rfl (st + b - 1 - k) rfl (by omega) (by decide) dn_E_firstUnder_24 ?_
    refine gr_top (y := (nI (ds_sf t n (st + b - 1 - k)))) (har.2.1 _ h16) ?_
    refine lv_goto (tgt := 32) hx hb dn_E_firstUnder_25 (by decide) ?_
    exact hret (nI (ds_sf t n (st + b - 1 - k))) () _ _ _ _ (by unfold du_f; first | rw [if_pos h16] | rw [if_neg (by omega)]) rfl hP hD hS dn_E_firstUnder_32

set_option maxRecDepth 100000 in
set_option maxHeartbeats 4000000 in
theorem c_E_countUnder (l : Launch) (dC : Nat → ClassId) (dI : Nat → Nat → Nat) (cI cZ : ClassId) (a0 a1 a2 a3 : Nat) (X Y Z : Nat → Int32) (t n st b : Nat) (hb1 : b ≤ 1) (hst : st ≤ 6) (har : de_ar t n st X Y Z) (k : Nat) (hk : k < st + b) : gc_I l yn_E_countUnder (gw yn_E_countUnder cn_E_countUnder 3 (some .int)) (rm_ 2 41) (dC, dI) vwCl (gT cI cZ) [.ref a0, .int (nI k)] [(a0, .inr (1, [.ref a1, .ref a2, .ref a3, .int (nI st), .int (nI ((ds_at t n st).1)), .int (nI ((ds_at t n st).2)), .int (nI b)])), (a1, .inl (cZ, 6, .inl X)), (a2, .inl (cI, 6, .inl Y)), (a3, .inl (cI, 6, .inl Z))] (fun r (_ : Unit) => r = nI (du_c t n st b k)) (fun _ => [(a0, .inr (1, [.ref a1, .ref a2, .ref a3, .int (nI st), .int (nI ((ds_at t n st).1)), .int (nI ((ds_at t n st).2)), .int (nI b)])), (a1, .inl (cZ, 6, .inl X)), (a2, .inl (cI, 6, .inl Y)), (a3, .inl (cI, 6, .inl Z))]) := by
  refine gc_I_of (cc := cn_E_countUnder) (maxL := 3) (ty := .int) (by decide) rfl (Nat.le_of_ble_eq_true rfl) ?_
  intro pp ee ss mm ar be me cd A Q ls H0 H locs hx hb hml hown hts hK hP hD hS hA hl hret
  have hw : ∀ w ∈ gw_T, w.before ar ss = true := fun w h => hts w (List.mem_cons_of_mem _ h)
  have hl : lv_has ls 3 [(0, .ref a0), (1, .int (nI k))] := hl
  refine lv_aload_n hx hb dn_E_countUnder_0 rfl (lv_at hl 0 rfl) ?_
  refine lv_iload_n hx hb dn_E_countUnder_1 rfl (lv_at hl 1 rfl) ?_
  refine gc_vi (pre := []) (wc := [(a0, .inr (1, [.ref a1, .ref a2, .ref a3, .int (nI st), .int (nI ((ds_at t n st).1)), .int (nI ((ds_at t n st).2)), .int (nI b)])), (a1, .inl (cZ, 6, .inl X)), (a2, .inl (cI, 6, .inl Y)), (a3, .inl (cI, 6, .inl Z))]) (po := []) (As := [.int (nI k)]) (rest := []) ⟨hx, hb, hml, hown, hw⟩ (c_E_stepOf l dC dI cI cZ a0 a1 a2 a3 X Y Z st ((ds_at t n st).1) ((ds_at t n st).2) b (by omega) (by omega) k (st + b - 1 - k) (by omega)) (gw_cV 1 hw mw_353 mw_355 mv_17 mw_4 mw_356 hd_E_stepOf ⟨Nat.le_of_ble_eq_true rfl, Nat.le_of_ble_eq_true rfl⟩) (ci := 1) rfl rfl rfl hK hP hD hS hA rfl hl.1 rfl (Nat.le_of_ble_eq_true rfl) dn_E_countUnder_2 ⟨Nat.zero_le _, Nat.zero_le _⟩ (fun r2 u2 H locs hc2 hP hD hS => ?_)
  subst hc2
  have hP : va_P (dC, dI) vwCl [(a0, .inr (1, [.ref a1, .ref a2, .ref a3, .int (nI st), .int (nI ((ds_at t n st).1)), .int (nI ((ds_at t n st).2)), .int (nI b)])), (a1, .inl (cZ, 6, .inl X)), (a2, .inl (cI, 6, .inl Y)), (a3, .inl (cI, 6, .inl Z))] H := hP
  have hD : va_D A [(a0, .inr (1, [.ref a1, .ref a2, .ref a3, .int (nI st), .int (nI ((ds_at t n st).1)), .int (nI ((ds_at t n st).2)), .int (nI b)])), (a1, .inl (cZ, 6, .inl X)), (a2, .inl (cI, 6, .inl Y)), (a3, .inl (cI, 6, .inl Z))] := hD
  refine lv_istore_n (lv' := [(2, .int (nI (st + b - 1 - k))), (0, .ref a0), (1, .int (nI k))]) hx hb dn_E_countUnder_5 rfl hl (by decide) rfl (fun ls hl => ?_)
  refine lv_iconst (v := 0) hx hb dn_E_countUnder_6 (by decide) ?_
  refine lv_iload_n hx hb dn_E_countUnder_7 rfl (lv_at hl 0 rfl) ?_
  refine gr_cgt (tgt := 28) hx hb 0 (st + b - 1 - k) rfl rfl (by decide) (by omega) dn_E_countUnder_8 (by decide) (fun h8 => absurd h8 (by omega)) (fun h8 => ?_)
  refine lv_iload_n hx hb dn_E_countUnder_11 rfl (lv_at hl 0 rfl) ?_
  refine lv_aload_n hx hb dn_E_countUnder_12 rfl (lv_at hl 1 rfl) ?_
  refine va_get (D := (dC, dI)) (ci := 1) (v := .int (nI st)) (C := rn_E) (T := tn_E) (N := 7) hx hb hw ml_E hown hK hP 0 rfl rfl 3 (by decide) (hw _ mw_65) (fun _ h9 => h9) rfl dn_E_countUnder_13 ?_
  refine gr_cge (tgt := 28) hx hb (st + b - 1 - k) st rfl rfl (by omega) (by omega) dn_E_countUnder_16 (by decide) (fun h16 => ?_) (fun h16 => ?_)
  · skip
    refine lv_aload_n hx hb dn_E_countUnder_28 rfl (lv_at hl 1 rfl) ?_
    refine va_get (D := (dC, dI)) (ci := 1) (v := .int (nI ((ds_at t n st).2))) (C := rn_E) (T := tn_E) (N := 7) hx hb hw ml_E hown hK hP 0 rfl rfl 5 (by decide) (hw _ mw_67) (fun _ h9 => h9) rfl dn_E_countUnder_29 ?_
    exact hret (nI ((ds_at t n st).2)) () _ _ _ _ (by unfold du_c; first | rw [if_pos h16] | rw [if_neg (by omega)]) rfl hP hD hS dn_E_countUnder_32
  · skip
    refine lv_aload_n hx hb dn_E_countUnder_19 rfl (lv_at hl 1 rfl) ?_
    refine va_get (D := (dC, dI)) (ci := 1) (v := .ref a3) (C := rn_E) (T := tn_E) (N := 7) hx hb hw ml_E hown hK hP 0 rfl rfl 2 (by decide) (hw _ mw_64) (fun _ h9 => h9) rfl dn_E_countUnder_20 ?_
    refine lv_iload_n hx hb dn_E_countUnder_23 rfl (lv_at hl 0 rfl) ?_
    refine gr_iald hx hb hK hP 3 0 rfl rfl (st + b - 1 - k) rfl (by omega) (by decide) dn_E_countUnder_24 ?_
    refine gr_top (y := (nI (ds_sc t n (st + b - 1 - k)))) (har.2.2 _ h16) ?_
    refine lv_goto (tgt := 32) hx hb dn_E_countUnder_25 (by decide) ?_
    exact hret (nI (ds_sc t n (st + b - 1 - k))) () _ _ _ _ (by unfold du_c; first | rw [if_pos h16] | rw [if_neg (by omega)]) rfl hP hD hS dn_E_countUnder_32

set_option maxRecDepth 100000 in
set_option maxHeartbeats 4000000 in
theorem c_E_wentRightAbove (l : Launch) (dC : Nat → ClassId) (dI : Nat → Nat → Nat) (cI cZ : ClassId) (a0 a1 a2 a3 : Nat) (X Y Z : Nat → Int32) (t n st b : Nat) (hb1 : b ≤ 1) (hst : st ≤ 6) (har : de_ar t n st X Y Z) (k s : Nat) (hks : s + 1 + k = st + b) : gc_I l yn_E_wentRightAbove (gw yn_E_wentRightAbove cn_E_wentRightAbove 3 (some .boolean)) (rm_ 2 41) (dC, dI) vwCl (gT cI cZ) [.ref a0, .int (nI k)] [(a0, .inr (1, [.ref a1, .ref a2, .ref a3, .int (nI st), .int (nI ((ds_at t n st).1)), .int (nI ((ds_at t n st).2)), .int (nI b)])), (a1, .inl (cZ, 6, .inl X)), (a2, .inl (cI, 6, .inl Y)), (a3, .inl (cI, 6, .inl Z))] (fun r (_ : Unit) => (r = 1 ∧ s < st ∧ ds_rt t n s = 1) ∨ (r = 0 ∧ ¬ (s < st ∧ ds_rt t n s = 1))) (fun _ => [(a0, .inr (1, [.ref a1, .ref a2, .ref a3, .int (nI st), .int (nI ((ds_at t n st).1)), .int (nI ((ds_at t n st).2)), .int (nI b)])), (a1, .inl (cZ, 6, .inl X)), (a2, .inl (cI, 6, .inl Y)), (a3, .inl (cI, 6, .inl Z))]) := by
  refine gc_I_of (cc := cn_E_wentRightAbove) (maxL := 3) (ty := .boolean) (by decide) rfl (Nat.le_of_ble_eq_true rfl) ?_
  intro pp ee ss mm ar be me cd A Q ls H0 H locs hx hb hml hown hts hK hP hD hS hA hl hret
  have hw : ∀ w ∈ gw_T, w.before ar ss = true := fun w h => hts w (List.mem_cons_of_mem _ h)
  have hl : lv_has ls 3 [(0, .ref a0), (1, .int (nI k))] := hl
  refine lv_aload_n hx hb dn_E_wentRightAbove_0 rfl (lv_at hl 0 rfl) ?_
  refine lv_iload_n hx hb dn_E_wentRightAbove_1 rfl (lv_at hl 1 rfl) ?_
  refine gc_vi (pre := []) (wc := [(a0, .inr (1, [.ref a1, .ref a2, .ref a3, .int (nI st), .int (nI ((ds_at t n st).1)), .int (nI ((ds_at t n st).2)), .int (nI b)])), (a1, .inl (cZ, 6, .inl X)), (a2, .inl (cI, 6, .inl Y)), (a3, .inl (cI, 6, .inl Z))]) (po := []) (As := [.int (nI k)]) (rest := []) ⟨hx, hb, hml, hown, hw⟩ (c_E_stepOf l dC dI cI cZ a0 a1 a2 a3 X Y Z st ((ds_at t n st).1) ((ds_at t n st).2) b (by omega) (by omega) k s (by omega)) (gw_cV 1 hw mw_353 mw_355 mv_17 mw_4 mw_356 hd_E_stepOf ⟨Nat.le_of_ble_eq_true rfl, Nat.le_of_ble_eq_true rfl⟩) (ci := 1) rfl rfl rfl hK hP hD hS hA rfl hl.1 rfl (Nat.le_of_ble_eq_true rfl) dn_E_wentRightAbove_2 ⟨Nat.zero_le _, Nat.zero_le _⟩ (fun r2 u2 H locs hc2 hP hD hS => ?_)
  subst hc2
  have hP : va_P (dC, dI) vwCl [(a0, .inr (1, [.ref a1, .ref a2, .ref a3, .int (nI st), .int (nI ((ds_at t n st).1)), .int (nI ((ds_at t n st).2)), .int (nI b)])), (a1, .inl (cZ, 6, .inl X)), (a2, .inl (cI, 6, .inl Y)), (a3, .inl (cI, 6, .inl Z))] H := hP
  have hD : va_D A [(a0, .inr (1, [.ref a1, .ref a2, .ref a3, .int (nI st), .int (nI ((ds_at t n st).1)), .int (nI ((ds_at t n st).2)), .int (nI b)])), (a1, .inl (cZ, 6, .inl X)), (a2, .inl (cI, 6, .inl Y)), (a3, .inl (cI, 6, .inl Z))] := hD
  refine lv_istore_n (lv' := [(2, .int (nI s)), (0, .ref a0), (1, .int (nI k))]) hx hb dn_E_wentRightAbove_5 rfl hl (by decide) rfl (fun ls hl => ?_)
  refine lv_iconst (v := 0) hx hb dn_E_wentRightAbove_6 (by decide) ?_
  refine lv_iload_n hx hb dn_E_wentRightAbove_7 rfl (lv_at hl 0 rfl) ?_
  refine gr_cgt (tgt := 32) hx hb 0 s rfl rfl (by decide) (by omega) dn_E_wentRightAbove_8 (by decide) (fun h8 => absurd h8 (by omega)) (fun h8 => ?_)
  refine lv_iload_n hx hb dn_E_wentRightAbove_11 rfl (lv_at hl 0 rfl) ?_
  refine lv_aload_n hx hb dn_E_wentRightAbove_12 rfl (lv_at hl 1 rfl) ?_
  refine va_get (D := (dC, dI)) (ci := 1) (v := .int (nI st)) (C := rn_E) (T := tn_E) (N := 7) hx hb hw ml_E hown hK hP 0 rfl rfl 3 (by decide) (hw _ mw_65) (fun _ h9 => h9) rfl dn_E_wentRightAbove_13 ?_
  refine gr_cge (tgt := 32) hx hb s st rfl rfl (by omega) (by omega) dn_E_wentRightAbove_16 (by decide) (fun h16 => ?_) (fun h16 => ?_)
  · skip
    refine lv_iconst (v := 0) hx hb dn_E_wentRightAbove_32 (by decide) ?_
    exact hret 0 () _ _ _ _ (Or.inr ⟨rfl, fun q => by first | omega | exact absurd ((har.1 _ h16).symm.trans h25) (by rw [q.2]; decide)⟩) rfl hP hD hS dn_E_wentRightAbove_33
  · skip
    refine lv_aload_n hx hb dn_E_wentRightAbove_19 rfl (lv_at hl 1 rfl) ?_
    refine va_get (D := (dC, dI)) (ci := 1) (v := .ref a1) (C := rn_E) (T := tn_E) (N := 7) hx hb hw ml_E hown hK hP 0 rfl rfl 0 (by decide) (hw _ mw_62) (fun _ h9 => h9) rfl dn_E_wentRightAbove_20 ?_
    refine lv_iload_n hx hb dn_E_wentRightAbove_23 rfl (lv_at hl 0 rfl) ?_
    refine gr_zald hx hb hK hP 1 1 rfl rfl s rfl (by omega) (by decide) dn_E_wentRightAbove_24 ?_
    refine lv_if_eq (tgt := 32) hx hb dn_E_wentRightAbove_25 (by decide) (fun h25 => ?_) (fun h25 => ?_)
    · skip
      refine lv_iconst (v := 0) hx hb dn_E_wentRightAbove_32 (by decide) ?_
      exact hret 0 () _ _ _ _ (Or.inr ⟨rfl, fun q => by first | omega | exact absurd ((har.1 _ h16).symm.trans h25) (by rw [q.2]; decide)⟩) rfl hP hD hS dn_E_wentRightAbove_33
    · skip
      refine lv_iconst (v := 1) hx hb dn_E_wentRightAbove_28 (by decide) ?_
      refine lv_goto (tgt := 33) hx hb dn_E_wentRightAbove_29 (by decide) ?_
      exact hret 1 () _ _ _ _ (Or.inl ⟨rfl, h16, (ds_rt01 t n s).elim (fun q => absurd ((har.1 _ h16).trans q) h25) id⟩) rfl hP hD hS dn_E_wentRightAbove_33

set_option maxRecDepth 100000 in
set_option maxHeartbeats 4000000 in
theorem c_F_add (l : Launch) (dC : Nat → ClassId) (dI : Nat → Nat → Nat) (cI cZ : ClassId) (a0 a1 : Nat) (fd : Nat → Int32) (c : Nat) (hc : c ≤ 12) (x : Int32) : gc_I l yn_F_add (gw yn_F_add cn_F_add 2 (some .boolean)) (rm_ 0 0) (dC, dI) vwCl (gT cI cZ) [.ref a0, .int x] [(a0, .inr (2, [.ref a1, .int (nI c)])), (a1, .inl (cI, 12, .inl fd))] (fun r (u : (Nat → Int32) × Nat) => (r = 1 ∧ c < 12 ∧ u = (upd fd c x, c + 1)) ∨ (r = 0 ∧ 12 ≤ c ∧ u = (fd, c))) (fun u => [(a0, .inr (2, [.ref a1, .int (nI u.2)])), (a1, .inl (cI, 12, .inl u.1))]) := by
  refine gc_I_of (cc := cn_F_add) (maxL := 2) (ty := .boolean) (by decide) rfl (Nat.le_of_ble_eq_true rfl) ?_
  intro pp ee ss mm ar be me cd A Q ls H0 H locs hx hb hml hown hts hK hP hD hS hA hl hret
  have hw : ∀ w ∈ gw_T, w.before ar ss = true := fun w h => hts w (List.mem_cons_of_mem _ h)
  have hl : lv_has ls 2 [(0, .ref a0), (1, .int x)] := hl
  refine lv_aload_n hx hb dn_F_add_0 rfl (lv_at hl 0 rfl) ?_
  refine va_get (D := (dC, dI)) (ci := 2) (v := .int (nI c)) (C := rn_F) (T := tn_F) (N := 2) hx hb hw ml_F hown hK hP 0 rfl rfl 1 (by decide) (hw _ mw_92) (fun _ h9 => h9) rfl dn_F_add_1 ?_
  refine lv_bipush (v := 12) hx hb dn_F_add_4 (by decide) ?_
  refine gr_clt (tgt := 11) hx hb c 12 rfl rfl (by omega) (by decide) dn_F_add_6 (by decide) (fun h6 => ?_) (fun h6 => ?_)
  · skip
    refine lv_aload_n hx hb dn_F_add_11 rfl (lv_at hl 0 rfl) ?_
    refine va_get (D := (dC, dI)) (ci := 2) (v := .ref a1) (C := rn_F) (T := tn_F) (N := 2) hx hb hw ml_F hown hK hP 0 rfl rfl 0 (by decide) (hw _ mw_91) (fun _ h9 => h9) rfl dn_F_add_12 ?_
    refine lv_aload_n hx hb dn_F_add_15 rfl (lv_at hl 0 rfl) ?_
    refine va_get (D := (dC, dI)) (ci := 2) (v := .int (nI c)) (C := rn_F) (T := tn_F) (N := 2) hx hb hw ml_F hown hK hP 0 rfl rfl 1 (by decide) (hw _ mw_92) (fun _ h9 => h9) rfl dn_F_add_16 ?_
    refine lv_iload_n hx hb dn_F_add_19 rfl (lv_at hl 1 rfl) ?_
    refine gr_iast hx hb hK hP hD hS 1 0 rfl rfl c rfl (by omega) (by decide) dn_F_add_20 (fun H locs hP hD hS => ?_)
    have hP : va_P (dC, dI) vwCl [(a0, .inr (2, [.ref a1, .int (nI c)])), (a1, .inl (cI, 12, .inl (upd fd c x)))] H := hP
    have hD : va_D A [(a0, .inr (2, [.ref a1, .int (nI c)])), (a1, .inl (cI, 12, .inl (upd fd c x)))] := hD
    refine lv_aload_n hx hb dn_F_add_21 rfl (lv_at hl 0 rfl) ?_
    refine lv_dup hx hb dn_F_add_22 rfl ?_
    refine va_get (D := (dC, dI)) (ci := 2) (v := .int (nI c)) (C := rn_F) (T := tn_F) (N := 2) hx hb hw ml_F hown hK hP 0 rfl rfl 1 (by decide) (hw _ mw_92) (fun _ h9 => h9) rfl dn_F_add_23 ?_
    refine lv_iconst (v := 1) hx hb dn_F_add_26 (by decide) ?_
    refine gr_addN hx hb c 1 rfl rfl dn_F_add_27 ?_
    refine va_put (D := (dC, dI)) (ci := 2) (v := .int (nI (c + 1))) (ty := .int) (C := rn_F) (T := tn_F) (N := 2) hx hb hw ml_F tt_F to_F nd_F hown hK hP hD hS 0 rfl rfl 1 (by decide) (hw _ mw_92) (fun _ h9 => h9) rfl (by decide +kernel) rfl rfl (Nat.le_of_ble_eq_true rfl) dn_F_add_28 (fun H locs hP hD hS => ?_)
    have hP : va_P (dC, dI) vwCl [(a0, .inr (2, [.ref a1, .int (nI (c + 1))])), (a1, .inl (cI, 12, .inl (upd fd c x)))] H := hP
    have hD : va_D A [(a0, .inr (2, [.ref a1, .int (nI (c + 1))])), (a1, .inl (cI, 12, .inl (upd fd c x)))] := hD
    refine lv_iconst (v := 1) hx hb dn_F_add_31 (by decide) ?_
    exact hret 1 (upd fd c x, (c + 1)) _ _ _ _ (Or.inl ⟨rfl, h6, rfl⟩) rfl hP hD hS dn_F_add_32
  · skip
    refine lv_iconst (v := 0) hx hb dn_F_add_9 (by decide) ?_
    exact hret 0 (fd, c) _ _ _ _ (Or.inr ⟨rfl, h6, rfl⟩) rfl hP hD hS dn_F_add_10

set_option maxRecDepth 100000 in
set_option maxHeartbeats 4000000 in
theorem c_F_clear (l : Launch) (dC : Nat → ClassId) (dI : Nat → Nat → Nat) (cI cZ : ClassId) (a0 a1 : Nat) (fd : Nat → Int32) (c : Nat) : gc_V l yn_F_clear (gw yn_F_clear cn_F_clear 1 none) (rm_ 0 0) (dC, dI) vwCl (gT cI cZ) [.ref a0] [(a0, .inr (2, [.ref a1, .int (nI c)])), (a1, .inl (cI, 12, .inl fd))] (fun (_ : Unit) => True) (fun _ => [(a0, .inr (2, [.ref a1, .int (nI 0)])), (a1, .inl (cI, 12, .inl fd))]) := by
  refine gc_V_of (cc := cn_F_clear) (maxL := 1) (by decide) rfl (Nat.le_of_ble_eq_true rfl) ?_
  intro pp ee ss mm ar be me cd A Q ls H0 H locs hx hb hml hown hts hK hP hD hS hA hl hret
  have hw : ∀ w ∈ gw_T, w.before ar ss = true := fun w h => hts w (List.mem_cons_of_mem _ h)
  have hl : lv_has ls 1 [(0, .ref a0)] := hl
  refine lv_aload_n hx hb dn_F_clear_0 rfl (lv_at hl 0 rfl) ?_
  refine lv_iconst (v := 0) hx hb dn_F_clear_1 (by decide) ?_
  refine va_put (D := (dC, dI)) (ci := 2) (v := .int 0) (ty := .int) (C := rn_F) (T := tn_F) (N := 2) hx hb hw ml_F tt_F to_F nd_F hown hK hP hD hS 0 rfl rfl 1 (by decide) (hw _ mw_92) (fun _ h9 => h9) rfl (by decide +kernel) rfl rfl (Nat.le_of_ble_eq_true rfl) dn_F_clear_2 (fun H locs hP hD hS => ?_)
  have hP : va_P (dC, dI) vwCl [(a0, .inr (2, [.ref a1, .int 0])), (a1, .inl (cI, 12, .inl fd))] H := hP
  have hD : va_D A [(a0, .inr (2, [.ref a1, .int 0])), (a1, .inl (cI, 12, .inl fd))] := hD
  exact hret () _ _ _ _ trivial hP hD hS dn_F_clear_5

set_option maxRecDepth 100000 in
set_option maxHeartbeats 4000000 in
theorem c_F_proveLeaf (l : Launch) (dC : Nat → ClassId) (dI : Nat → Nat → Nat) (cI cZ : ClassId) (a0 a1 : Nat) (fd : Nat → Int32) (c : Nat) (hc : c ≤ 12) (b0 b1 b2 b3 : Nat) (X Y Z : Nat → Int32) (t n st : Nat) (hst : st ≤ 6) (har : de_ar t n st X Y Z) (root : Int32) : gc_I l yn_F_proveLeaf (gw yn_F_proveLeaf cn_F_proveLeaf 5 (some .boolean)) (rm_ 3 64) (dC, dI) vwCl (gT cI cZ) [.ref a0, .ref b0, .int root] [(a0, .inr (2, [.ref a1, .int (nI c)])), (a1, .inl (cI, 12, .inl fd)), (b0, .inr (1, [.ref b1, .ref b2, .ref b3, .int (nI st), .int (nI ((ds_at t n st).1)), .int (nI ((ds_at t n st).2)), .int (nI 1)])), (b1, .inl (cZ, 6, .inl X)), (b2, .inl (cI, 6, .inl Y)), (b3, .inl (cI, 6, .inl Z))] (fun r (_ : Unit) => (r = 1 ∧ (c = st + 1 ∧ pf_up fd t n st st = root)) ∨ (r = 0 ∧ ¬ (c = st + 1 ∧ pf_up fd t n st st = root))) (fun _ => [(a0, .inr (2, [.ref a1, .int (nI c)])), (a1, .inl (cI, 12, .inl fd)), (b0, .inr (1, [.ref b1, .ref b2, .ref b3, .int (nI st), .int (nI ((ds_at t n st).1)), .int (nI ((ds_at t n st).2)), .int (nI 1)])), (b1, .inl (cZ, 6, .inl X)), (b2, .inl (cI, 6, .inl Y)), (b3, .inl (cI, 6, .inl Z))]) := by
  refine gc_I_of (cc := cn_F_proveLeaf) (maxL := 5) (ty := .boolean) (by decide) rfl (Nat.le_of_ble_eq_true rfl) ?_
  intro pp ee ss mm ar be me cd A Q ls H0 H locs hx hb hml hown hts hK hP hD hS hA hl hret
  have hw : ∀ w ∈ gw_T, w.before ar ss = true := fun w h => hts w (List.mem_cons_of_mem _ h)
  have hl : lv_has ls 5 [(0, .ref a0), (1, .ref b0), (2, .int root)] := hl
  refine lv_aload_n hx hb dn_F_proveLeaf_0 rfl (lv_at hl 0 rfl) ?_
  refine va_get (D := (dC, dI)) (ci := 2) (v := .int (nI c)) (C := rn_F) (T := tn_F) (N := 2) hx hb hw ml_F hown hK hP 0 rfl rfl 1 (by decide) (hw _ mw_92) (fun _ h9 => h9) rfl dn_F_proveLeaf_1 ?_
  refine lv_aload_n hx hb dn_F_proveLeaf_4 rfl (lv_at hl 1 rfl) ?_
  refine gc_vi (pre := [(a0, .inr (2, [.ref a1, .int (nI c)])), (a1, .inl (cI, 12, .inl fd))]) (wc := [(b0, .inr (1, [.ref b1, .ref b2, .ref b3, .int (nI st), .int (nI ((ds_at t n st).1)), .int (nI ((ds_at t n st).2)), .int (nI 1)])), (b1, .inl (cZ, 6, .inl X)), (b2, .inl (cI, 6, .inl Y)), (b3, .inl (cI, 6, .inl Z))]) (po := []) (As := []) (rest := [.int (nI c)]) ⟨hx, hb, hml, hown, hw⟩ (c_E_digestCount l dC dI cI cZ b0 b1 b2 b3 X Y Z st ((ds_at t n st).1) ((ds_at t n st).2) 1 (by omega) (by omega) ) (gw_cV 0 hw mw_387 mw_346 mw_347 mw_4 mw_348 hd_E_digestCount ⟨Nat.le_of_ble_eq_true rfl, Nat.le_of_ble_eq_true rfl⟩) (ci := 1) rfl rfl rfl hK hP hD hS hA rfl hl.1 rfl (Nat.le_of_ble_eq_true rfl) dn_F_proveLeaf_5 ⟨Nat.zero_le _, Nat.zero_le _⟩ (fun r5 u5 H locs hc5 hP hD hS => ?_)
  subst hc5
  have hP : va_P (dC, dI) vwCl [(a0, .inr (2, [.ref a1, .int (nI c)])), (a1, .inl (cI, 12, .inl fd)), (b0, .inr (1, [.ref b1, .ref b2, .ref b3, .int (nI st), .int (nI ((ds_at t n st).1)), .int (nI ((ds_at t n st).2)), .int (nI 1)])), (b1, .inl (cZ, 6, .inl X)), (b2, .inl (cI, 6, .inl Y)), (b3, .inl (cI, 6, .inl Z))] H := hP
  have hD : va_D A [(a0, .inr (2, [.ref a1, .int (nI c)])), (a1, .inl (cI, 12, .inl fd)), (b0, .inr (1, [.ref b1, .ref b2, .ref b3, .int (nI st), .int (nI ((ds_at t n st).1)), .int (nI ((ds_at t n st).2)), .int (nI 1)])), (b1, .inl (cZ, 6, .inl X)), (b2, .inl (cI, 6, .inl Y)), (b3, .inl (cI, 6, .inl Z))] := hD
  refine gr_ceq (tgt := 13) hx hb c (st + 1) rfl rfl (by omega) (by omega) dn_F_proveLeaf_8 (by decide) (fun h8 => ?_) (fun h8 => ?_)
  · skip
    refine lv_aload_n hx hb dn_F_proveLeaf_13 rfl (lv_at hl 0 rfl) ?_
    refine va_get (D := (dC, dI)) (ci := 2) (v := .ref a1) (C := rn_F) (T := tn_F) (N := 2) hx hb hw ml_F hown hK hP 0 rfl rfl 0 (by decide) (hw _ mw_91) (fun _ h9 => h9) rfl dn_F_proveLeaf_14 ?_
    refine lv_iconst (v := 0) hx hb dn_F_proveLeaf_17 (by decide) ?_
    refine gr_iald hx hb hK hP 1 0 rfl rfl 0 rfl (by omega) (by decide) dn_F_proveLeaf_18 ?_
    refine lv_istore_n (lv' := [(3, .int (fd 0)), (0, .ref a0), (1, .ref b0), (2, .int root)]) hx hb dn_F_proveLeaf_19 rfl hl (by decide) rfl (fun ls hl => ?_)
    refine lv_iconst (v := 1) hx hb dn_F_proveLeaf_20 (by decide) ?_
    refine lv_istore (lv' := [(4, .int 1), (3, .int (fd 0)), (0, .ref a0), (1, .ref b0), (2, .int root)]) hx hb dn_F_proveLeaf_21 hl (by decide) rfl (fun ls hl => ?_)
    have lp23 : ∀ (n_ : Nat) (q : Nat) (ls : Array Slot) (H : Heap) (locs : List Loc), st - q = n_ → lv_has ls 5 [(0, .ref a0), (1, .ref b0), (2, .int root), (3, .int (pf_up fd t n st q)), (4, .int (nI (q + 1)))] → va_P (dC, dI) vwCl [(a0, .inr (2, [.ref a1, .int (nI c)])), (a1, .inl (cI, 12, .inl fd)), (b0, .inr (1, [.ref b1, .ref b2, .ref b3, .int (nI st), .int (nI ((ds_at t n st).1)), .int (nI ((ds_at t n st).2)), .int (nI 1)])), (b1, .inl (cZ, 6, .inl X)), (b2, .inl (cI, 6, .inl Y)), (b3, .inl (cI, 6, .inl Z))] H → va_D A [(a0, .inr (2, [.ref a1, .int (nI c)])), (a1, .inl (cI, 12, .inl fd)), (b0, .inr (1, [.ref b1, .ref b2, .ref b3, .int (nI st), .int (nI ((ds_at t n st).1)), .int (nI ((ds_at t n st).2)), .int (nI 1)])), (b1, .inl (cZ, 6, .inl X)), (b2, .inl (cI, 6, .inl Y)), (b3, .inl (cI, 6, .inl Z))] → va_S A H0 H locs → (q ≤ st) → W pp l ee (headSpec (gw yn_F_proveLeaf cn_F_proveLeaf 5 (some .boolean)) (rm_ 3 64)).room ss mm ar be me cd H locs 0 0 Q (F0 mm 23 ls []) := by
      intro n_
      induction n_ using Nat.strongRecOn with
      | ind n_ ih =>
        intro q ls H locs hn_ hl hP hD hS hq
        refine lv_iload hx hb dn_F_proveLeaf_23 (lv_at hl 4 rfl) ?_
        refine lv_aload_n hx hb dn_F_proveLeaf_25 rfl (lv_at hl 0 rfl) ?_
        refine va_get (D := (dC, dI)) (ci := 2) (v := .int (nI c)) (C := rn_F) (T := tn_F) (N := 2) hx hb hw ml_F hown hK hP 0 rfl rfl 1 (by decide) (hw _ mw_92) (fun _ h9 => h9) rfl dn_F_proveLeaf_26 ?_
        refine gr_cge (tgt := 73) hx hb (q + 1) c rfl rfl (by omega) (by omega) dn_F_proveLeaf_29 (by decide) (fun h29 => ?_) (fun h29 => ?_)
        · skip
          obtain rfl : st = q := by omega
          refine lv_iload_n hx hb dn_F_proveLeaf_73 rfl (lv_at hl 3 rfl) ?_
          refine lv_iload_n hx hb dn_F_proveLeaf_74 rfl (lv_at hl 2 rfl) ?_
          refine lv_icmp_ne (tgt := 82) hx hb dn_F_proveLeaf_75 (by decide) (fun h75 => ?_) (fun h75 => ?_)
          · skip
            refine lv_iconst (v := 0) hx hb dn_F_proveLeaf_82 (by decide) ?_
            exact hret 0 () _ _ _ _ (Or.inr ⟨rfl, fun q => h75 q.2⟩) rfl hP hD hS dn_F_proveLeaf_83
          · skip
            refine lv_iconst (v := 1) hx hb dn_F_proveLeaf_78 (by decide) ?_
            refine lv_goto (tgt := 83) hx hb dn_F_proveLeaf_79 (by decide) ?_
            exact hret 1 () _ _ _ _ (Or.inl ⟨rfl, h8, h75⟩) rfl hP hD hS dn_F_proveLeaf_83
        · skip
          refine lv_aload_n hx hb dn_F_proveLeaf_32 rfl (lv_at hl 1 rfl) ?_
          refine lv_iload hx hb dn_F_proveLeaf_33 (lv_at hl 4 rfl) ?_
          refine gc_vi (pre := [(a0, .inr (2, [.ref a1, .int (nI c)])), (a1, .inl (cI, 12, .inl fd))]) (wc := [(b0, .inr (1, [.ref b1, .ref b2, .ref b3, .int (nI st), .int (nI ((ds_at t n st).1)), .int (nI ((ds_at t n st).2)), .int (nI 1)])), (b1, .inl (cZ, 6, .inl X)), (b2, .inl (cI, 6, .inl Y)), (b3, .inl (cI, 6, .inl Z))]) (po := []) (As := [.int (nI (q + 1))]) (rest := []) ⟨hx, hb, hml, hown, hw⟩ (c_E_wentRightAbove l dC dI cI cZ b0 b1 b2 b3 X Y Z t n st 1 (by omega) (by omega) har (q + 1) (st - (q + 1)) (by omega)) (gw_cV 1 hw mw_388 mw_389 mw_390 mw_4 mw_391 hd_E_wentRightAbove ⟨Nat.le_of_ble_eq_true rfl, Nat.le_of_ble_eq_true rfl⟩) (ci := 1) rfl rfl rfl hK hP hD hS hA rfl hl.1 rfl (Nat.le_of_ble_eq_true rfl) dn_F_proveLeaf_35 ⟨Nat.zero_le _, Nat.zero_le _⟩ (fun r35 u35 H locs hc35 hP hD hS => ?_)
          have hP : va_P (dC, dI) vwCl [(a0, .inr (2, [.ref a1, .int (nI c)])), (a1, .inl (cI, 12, .inl fd)), (b0, .inr (1, [.ref b1, .ref b2, .ref b3, .int (nI st), .int (nI ((ds_at t n st).1)), .int (nI ((ds_at t n st).2)), .int (nI 1)])), (b1, .inl (cZ, 6, .inl X)), (b2, .inl (cI, 6, .inl Y)), (b3, .inl (cI, 6, .inl Z))] H := hP
          have hD : va_D A [(a0, .inr (2, [.ref a1, .int (nI c)])), (a1, .inl (cI, 12, .inl fd)), (b0, .inr (1, [.ref b1, .ref b2, .ref b3, .int (nI st), .int (nI ((ds_at t n st).1)), .int (nI ((ds_at t n st).2)), .int (nI 1)])), (b1, .inl (cZ, 6, .inl X)), (b2, .inl (cI, 6, .inl Y)), (b3, .inl (cI, 6, .inl Z))] := hD
          rcases hc35 with ⟨rfl, hw35⟩ | ⟨rfl, hw35⟩
          · skip
            refine lv_if_eq (tgt := 55) hx hb dn_F_proveLeaf_38 (by decide) (fun h => absurd h (by decide)) (fun _ => ?_)
            refine lv_aload_n hx hb dn_F_proveLeaf_41 rfl (lv_at hl 0 rfl) ?_
            refine va_get (D := (dC, dI)) (ci := 2) (v := .ref a1) (C := rn_F) (T := tn_F) (N := 2) hx hb hw ml_F hown hK hP 0 rfl rfl 0 (by decide) (hw _ mw_91) (fun _ h9 => h9) rfl dn_F_proveLeaf_42 ?_
            refine lv_iload hx hb dn_F_proveLeaf_45 (lv_at hl 4 rfl) ?_
            refine gr_iald hx hb hK hP 1 0 rfl rfl (q + 1) rfl (by omega) (by decide) dn_F_proveLeaf_47 ?_
            refine lv_iload_n hx hb dn_F_proveLeaf_48 rfl (lv_at hl 3 rfl) ?_
            refine gc_s0 (v := (hf_node (fd (q + 1)) (pf_up fd t n st q))) (As := [.int (fd (q + 1)), .int (pf_up fd t n st q)]) (rest := []) ⟨hx, hb, hml, hown, hw⟩ (c_H_node l dC dI cI cZ (fd (q + 1)) (pf_up fd t n st q)) (gw_cS 2 hw mw_392 mw_315 mw_7 mw_316 hd_H_node ⟨Nat.le_of_ble_eq_true rfl, Nat.le_of_ble_eq_true rfl⟩) hK hP hD hS hA rfl hl.1 rfl (Nat.le_of_ble_eq_true rfl) dn_F_proveLeaf_49 ⟨Nat.zero_le _, Nat.zero_le _⟩ (fun H locs hP hD hS => ?_)
            refine lv_goto (tgt := 66) hx hb dn_F_proveLeaf_52 (by decide) ?_
            refine gr_top (y := pf_up fd t n st (q + 1)) (by rw [pf_up]; first | rw [if_pos hw35.2] | rw [if_neg (fun z => hw35 ⟨by omega, z⟩)]) ?_
            refine lv_istore_n (lv' := [(3, .int (pf_up fd t n st (q + 1))), (0, .ref a0), (1, .ref b0), (2, .int root), (4, .int (nI (q + 1)))]) hx hb dn_F_proveLeaf_66 rfl hl (by decide) rfl (fun ls hl => ?_)
            refine lv_iinc (lv' := [(4, .int (nI ((q + 1) + 1))), (3, .int (pf_up fd t n st (q + 1))), (0, .ref a0), (1, .ref b0), (2, .int root)]) (v := (nI ((q + 1) + 1))) (k := 4) hx hb dn_F_proveLeaf_67 hl rfl (nI_add (q + 1) 1) (by decide) rfl (fun ls hl => ?_)
            refine lv_goto (tgt := 23) hx hb dn_F_proveLeaf_70 (by decide) ?_
            exact ih (st - (q + 1)) (by omega) (q + 1) ls H locs rfl (lv_sub hl [2, 3, 4, 1, 0] rfl) hP hD hS (by omega)
          · skip
            refine lv_if_eq (tgt := 55) hx hb dn_F_proveLeaf_38 (by decide) (fun _ => ?_) (fun h => absurd h (by decide))
            refine lv_iload_n hx hb dn_F_proveLeaf_55 rfl (lv_at hl 3 rfl) ?_
            refine lv_aload_n hx hb dn_F_proveLeaf_56 rfl (lv_at hl 0 rfl) ?_
            refine va_get (D := (dC, dI)) (ci := 2) (v := .ref a1) (C := rn_F) (T := tn_F) (N := 2) hx hb hw ml_F hown hK hP 0 rfl rfl 0 (by decide) (hw _ mw_91) (fun _ h9 => h9) rfl dn_F_proveLeaf_57 ?_
            refine lv_iload hx hb dn_F_proveLeaf_60 (lv_at hl 4 rfl) ?_
            refine gr_iald hx hb hK hP 1 0 rfl rfl (q + 1) rfl (by omega) (by decide) dn_F_proveLeaf_62 ?_
            refine gc_s0 (v := (hf_node (pf_up fd t n st q) (fd (q + 1)))) (As := [.int (pf_up fd t n st q), .int (fd (q + 1))]) (rest := []) ⟨hx, hb, hml, hown, hw⟩ (c_H_node l dC dI cI cZ (pf_up fd t n st q) (fd (q + 1))) (gw_cS 2 hw mw_392 mw_315 mw_7 mw_316 hd_H_node ⟨Nat.le_of_ble_eq_true rfl, Nat.le_of_ble_eq_true rfl⟩) hK hP hD hS hA rfl hl.1 rfl (Nat.le_of_ble_eq_true rfl) dn_F_proveLeaf_63 ⟨Nat.zero_le _, Nat.zero_le _⟩ (fun H locs hP hD hS => ?_)
            refine gr_top (y := pf_up fd t n st (q + 1)) (by rw [pf_up]; first | rw [if_pos hw35.2] | rw [if_neg (fun z => hw35 ⟨by omega, z⟩)]) ?_
            refine lv_istore_n (lv' := [(3, .int (pf_up fd t n st (q + 1))), (0, .ref a0), (1, .ref b0), (2, .int root), (4, .int (nI (q + 1)))]) hx hb dn_F_proveLeaf_66 rfl hl (by decide) rfl (fun ls hl => ?_)
            refine lv_iinc (lv' := [(4, .int (nI ((q + 1) + 1))), (3, .int (pf_up fd t n st (q + 1))), (0, .ref a0), (1, .ref b0), (2, .int root)]) (v := (nI ((q + 1) + 1))) (k := 4) hx hb dn_F_proveLeaf_67 hl rfl (nI_add (q + 1) 1) (by decide) rfl (fun ls hl => ?_)
            refine lv_goto (tgt := 23) hx hb dn_F_proveLeaf_70 (by decide) ?_
            exact ih (st - (q + 1)) (by omega) (q + 1) ls H locs rfl (lv_sub hl [2, 3, 4, 1, 0] rfl) hP hD hS (by omega)
    exact lp23 _ 0 ls H locs rfl (lv_sub hl [2, 3, 4, 1, 0] rfl) hP hD hS (Nat.zero_le _)
  · skip
    refine lv_iconst (v := 0) hx hb dn_F_proveLeaf_11 (by decide) ?_
    exact hret 0 () _ _ _ _ (Or.inr ⟨rfl, fun q => h8 q.1⟩) rfl hP hD hS dn_F_proveLeaf_12

set_option maxRecDepth 100000 in
set_option maxHeartbeats 4000000 in
theorem c_F_proveGrowth (l : Launch) (dC : Nat → ClassId) (dI : Nat → Nat → Nat) (cI cZ : ClassId) (a0 a1 : Nat) (fd : Nat → Int32) (c : Nat) (hc : c ≤ 12) (b0 b1 b2 b3 : Nat) (X Y Z : Nat → Int32) (t n st b : Nat) (hb1 : b ≤ 1) (hst : st ≤ 6) (har : de_ar t n st X Y Z) (early late : Int32) : gc_I l yn_F_proveGrowth (gw yn_F_proveGrowth cn_F_proveGrowth 8 (some .boolean)) (rm_ 3 64) (dC, dI) vwCl (gT cI cZ) [.ref a0, .ref b0, .int early, .int late] [(a0, .inr (2, [.ref a1, .int (nI c)])), (a1, .inl (cI, 12, .inl fd)), (b0, .inr (1, [.ref b1, .ref b2, .ref b3, .int (nI st), .int (nI ((ds_at t n st).1)), .int (nI ((ds_at t n st).2)), .int (nI b)])), (b1, .inl (cZ, 6, .inl X)), (b2, .inl (cI, 6, .inl Y)), (b3, .inl (cI, 6, .inl Z))] (fun r (_ : Unit) => (r = 1 ∧ (c = st + b ∧ pf_old fd (pf_x fd early b) b t n st st = early ∧ pf_new fd (pf_x fd early b) b t n st st = late)) ∨ (r = 0 ∧ ¬ (c = st + b ∧ pf_old fd (pf_x fd early b) b t n st st = early ∧ pf_new fd (pf_x fd early b) b t n st st = late))) (fun _ => [(a0, .inr (2, [.ref a1, .int (nI c)])), (a1, .inl (cI, 12, .inl fd)), (b0, .inr (1, [.ref b1, .ref b2, .ref b3, .int (nI st), .int (nI ((ds_at t n st).1)), .int (nI ((ds_at t n st).2)), .int (nI b)])), (b1, .inl (cZ, 6, .inl X)), (b2, .inl (cI, 6, .inl Y)), (b3, .inl (cI, 6, .inl Z))]) := by
  refine gc_I_of (cc := cn_F_proveGrowth) (maxL := 8) (ty := .boolean) (by decide) rfl (Nat.le_of_ble_eq_true rfl) ?_
  intro pp ee ss mm ar be me cd A Q ls H0 H locs hx hb hml hown hts hK hP hD hS hA hl hret
  have hw : ∀ w ∈ gw_T, w.before ar ss = true := fun w h => hts w (List.mem_cons_of_mem _ h)
  have hl : lv_has ls 8 [(0, .ref a0), (1, .ref b0), (2, .int early), (3, .int late)] := hl
  refine lv_aload_n hx hb dn_F_proveGrowth_0 rfl (lv_at hl 0 rfl) ?_
  refine va_get (D := (dC, dI)) (ci := 2) (v := .int (nI c)) (C := rn_F) (T := tn_F) (N := 2) hx hb hw ml_F hown hK hP 0 rfl rfl 1 (by decide) (hw _ mw_92) (fun _ h9 => h9) rfl dn_F_proveGrowth_1 ?_
  refine lv_aload_n hx hb dn_F_proveGrowth_4 rfl (lv_at hl 1 rfl) ?_
  refine gc_vi (pre := [(a0, .inr (2, [.ref a1, .int (nI c)])), (a1, .inl (cI, 12, .inl fd))]) (wc := [(b0, .inr (1, [.ref b1, .ref b2, .ref b3, .int (nI st), .int (nI ((ds_at t n st).1)), .int (nI ((ds_at t n st).2)), .int (nI b)])), (b1, .inl (cZ, 6, .inl X)), (b2, .inl (cI, 6, .inl Y)), (b3, .inl (cI, 6, .inl Z))]) (po := []) (As := []) (rest := [.int (nI c)]) ⟨hx, hb, hml, hown, hw⟩ (c_E_digestCount l dC dI cI cZ b0 b1 b2 b3 X Y Z st ((ds_at t n st).1) ((ds_at t n st).2) b (by omega) (by omega) ) (gw_cV 0 hw mw_387 mw_346 mw_347 mw_4 mw_348 hd_E_digestCount ⟨Nat.le_of_ble_eq_true rfl, Nat.le_of_ble_eq_true rfl⟩) (ci := 1) rfl rfl rfl hK hP hD hS hA rfl hl.1 rfl (Nat.le_of_ble_eq_true rfl) dn_F_proveGrowth_5 ⟨Nat.zero_le _, Nat.zero_le _⟩ (fun r5 u5 H locs hc5 hP hD hS => ?_)
  subst hc5
  have hP : va_P (dC, dI) vwCl [(a0, .inr (2, [.ref a1, .int (nI c)])), (a1, .inl (cI, 12, .inl fd)), (b0, .inr (1, [.ref b1, .ref b2, .ref b3, .int (nI st), .int (nI ((ds_at t n st).1)), .int (nI ((ds_at t n st).2)), .int (nI b)])), (b1, .inl (cZ, 6, .inl X)), (b2, .inl (cI, 6, .inl Y)), (b3, .inl (cI, 6, .inl Z))] H := hP
  have hD : va_D A [(a0, .inr (2, [.ref a1, .int (nI c)])), (a1, .inl (cI, 12, .inl fd)), (b0, .inr (1, [.ref b1, .ref b2, .ref b3, .int (nI st), .int (nI ((ds_at t n st).1)), .int (nI ((ds_at t n st).2)), .int (nI b)])), (b1, .inl (cZ, 6, .inl X)), (b2, .inl (cI, 6, .inl Y)), (b3, .inl (cI, 6, .inl Z))] := hD
  refine gr_ceq (tgt := 13) hx hb c (st + b) rfl rfl (by omega) (by omega) dn_F_proveGrowth_8 (by decide) (fun h8 => ?_) (fun h8 => ?_)
  · skip
    refine lv_aload_n hx hb dn_F_proveGrowth_13 rfl (lv_at hl 1 rfl) ?_
    refine gc_vi (pre := [(a0, .inr (2, [.ref a1, .int (nI c)])), (a1, .inl (cI, 12, .inl fd))]) (wc := [(b0, .inr (1, [.ref b1, .ref b2, .ref b3, .int (nI st), .int (nI ((ds_at t n st).1)), .int (nI ((ds_at t n st).2)), .int (nI b)])), (b1, .inl (cZ, 6, .inl X)), (b2, .inl (cI, 6, .inl Y)), (b3, .inl (cI, 6, .inl Z))]) (po := []) (As := []) (rest := []) ⟨hx, hb, hml, hown, hw⟩ (c_E_showsFoot l dC dI cI cZ b0 b1 b2 b3 X Y Z st ((ds_at t n st).1) ((ds_at t n st).2) b (by omega) (by omega) ) (gw_cV 0 hw mw_405 mw_406 mw_407 mw_4 mw_408 hd_E_showsFoot ⟨Nat.le_of_ble_eq_true rfl, Nat.le_of_ble_eq_true rfl⟩) (ci := 1) rfl rfl rfl hK hP hD hS hA rfl hl.1 rfl (Nat.le_of_ble_eq_true rfl) dn_F_proveGrowth_14 ⟨Nat.zero_le _, Nat.zero_le _⟩ (fun r14 u14 H locs hc14 hP hD hS => ?_)
    subst hc14
    have hP : va_P (dC, dI) vwCl [(a0, .inr (2, [.ref a1, .int (nI c)])), (a1, .inl (cI, 12, .inl fd)), (b0, .inr (1, [.ref b1, .ref b2, .ref b3, .int (nI st), .int (nI ((ds_at t n st).1)), .int (nI ((ds_at t n st).2)), .int (nI b)])), (b1, .inl (cZ, 6, .inl X)), (b2, .inl (cI, 6, .inl Y)), (b3, .inl (cI, 6, .inl Z))] H := hP
    have hD : va_D A [(a0, .inr (2, [.ref a1, .int (nI c)])), (a1, .inl (cI, 12, .inl fd)), (b0, .inr (1, [.ref b1, .ref b2, .ref b3, .int (nI st), .int (nI ((ds_at t n st).1)), .int (nI ((ds_at t n st).2)), .int (nI b)])), (b1, .inl (cZ, 6, .inl X)), (b2, .inl (cI, 6, .inl Y)), (b3, .inl (cI, 6, .inl Z))] := hD
    refine gr_zeq (tgt := 29) hx hb b rfl (by omega) dn_F_proveGrowth_17 (by decide) (fun h17 => ?_) (fun h17 => ?_)
    · skip
      obtain rfl : 0 = b := by omega
      refine lv_iload_n hx hb dn_F_proveGrowth_29 rfl (lv_at hl 2 rfl) ?_
      refine lv_istore (lv' := [(4, .int early), (0, .ref a0), (1, .ref b0), (2, .int early), (3, .int late)]) hx hb dn_F_proveGrowth_30 hl (by decide) rfl (fun ls hl => ?_)
      refine lv_iload hx hb dn_F_proveGrowth_32 (lv_at hl 0 rfl) ?_
      refine lv_istore (lv' := [(5, .int early), (4, .int early), (0, .ref a0), (1, .ref b0), (2, .int early), (3, .int late)]) hx hb dn_F_proveGrowth_34 hl (by decide) rfl (fun ls hl => ?_)
      refine lv_iload hx hb dn_F_proveGrowth_36 (lv_at hl 1 rfl) ?_
      refine lv_istore (lv' := [(6, .int early), (5, .int early), (4, .int early), (0, .ref a0), (1, .ref b0), (2, .int early), (3, .int late)]) hx hb dn_F_proveGrowth_38 hl (by decide) rfl (fun ls hl => ?_)
      refine lv_aload_n hx hb dn_F_proveGrowth_40 rfl (lv_at hl 4 rfl) ?_
      refine gc_vi (pre := [(a0, .inr (2, [.ref a1, .int (nI c)])), (a1, .inl (cI, 12, .inl fd))]) (wc := [(b0, .inr (1, [.ref b1, .ref b2, .ref b3, .int (nI st), .int (nI ((ds_at t n st).1)), .int (nI ((ds_at t n st).2)), .int 0])), (b1, .inl (cZ, 6, .inl X)), (b2, .inl (cI, 6, .inl Y)), (b3, .inl (cI, 6, .inl Z))]) (po := []) (As := []) (rest := []) ⟨hx, hb, hml, hown, hw⟩ (c_E_showsFoot l dC dI cI cZ b0 b1 b2 b3 X Y Z st ((ds_at t n st).1) ((ds_at t n st).2) 0 (by omega) (by omega) ) (gw_cV 0 hw mw_405 mw_406 mw_407 mw_4 mw_408 hd_E_showsFoot ⟨Nat.le_of_ble_eq_true rfl, Nat.le_of_ble_eq_true rfl⟩) (ci := 1) rfl rfl rfl hK hP hD hS hA rfl hl.1 rfl (Nat.le_of_ble_eq_true rfl) dn_F_proveGrowth_41 ⟨Nat.zero_le _, Nat.zero_le _⟩ (fun r41 u41 H locs hc41 hP hD hS => ?_)
      subst hc41
      have hP : va_P (dC, dI) vwCl [(a0, .inr (2, [.ref a1, .int (nI c)])), (a1, .inl (cI, 12, .inl fd)), (b0, .inr (1, [.ref b1, .ref b2, .ref b3, .int (nI st), .int (nI ((ds_at t n st).1)), .int (nI ((ds_at t n st).2)), .int 0])), (b1, .inl (cZ, 6, .inl X)), (b2, .inl (cI, 6, .inl Y)), (b3, .inl (cI, 6, .inl Z))] H := hP
      have hD : va_D A [(a0, .inr (2, [.ref a1, .int (nI c)])), (a1, .inl (cI, 12, .inl fd)), (b0, .inr (1, [.ref b1, .ref b2, .ref b3, .int (nI st), .int (nI ((ds_at t n st).1)), .int (nI ((ds_at t n st).2)), .int 0])), (b1, .inl (cZ, 6, .inl X)), (b2, .inl (cI, 6, .inl Y)), (b3, .inl (cI, 6, .inl Z))] := hD
      refine lv_if_eq (tgt := 51) hx hb dn_F_proveGrowth_44 (by decide) (fun _ => ?_) (fun h => absurd h (by decide))
      refine lv_iconst (v := 0) hx hb dn_F_proveGrowth_51 (by decide) ?_
      refine lv_istore (lv' := [(7, .int 0), (6, .int early), (5, .int early), (4, .int early), (0, .ref a0), (1, .ref b0), (2, .int early), (3, .int late)]) hx hb dn_F_proveGrowth_52 hl (by decide) rfl (fun ls hl => ?_)
      have lp54 : ∀ (n_ : Nat) (i : Nat) (ls : Array Slot) (H : Heap) (locs : List Loc), st - i = n_ → lv_has ls 8 [(0, .ref a0), (1, .ref b0), (2, .int early), (3, .int late), (4, .int early), (5, .int (pf_old fd early 0 t n st i)), (6, .int (pf_new fd early 0 t n st i)), (7, .int (nI (0 + i)))] → va_P (dC, dI) vwCl [(a0, .inr (2, [.ref a1, .int (nI c)])), (a1, .inl (cI, 12, .inl fd)), (b0, .inr (1, [.ref b1, .ref b2, .ref b3, .int (nI st), .int (nI ((ds_at t n st).1)), .int (nI ((ds_at t n st).2)), .int (nI 0)])), (b1, .inl (cZ, 6, .inl X)), (b2, .inl (cI, 6, .inl Y)), (b3, .inl (cI, 6, .inl Z))] H → va_D A [(a0, .inr (2, [.ref a1, .int (nI c)])), (a1, .inl (cI, 12, .inl fd)), (b0, .inr (1, [.ref b1, .ref b2, .ref b3, .int (nI st), .int (nI ((ds_at t n st).1)), .int (nI ((ds_at t n st).2)), .int (nI 0)])), (b1, .inl (cZ, 6, .inl X)), (b2, .inl (cI, 6, .inl Y)), (b3, .inl (cI, 6, .inl Z))] → va_S A H0 H locs → (i ≤ st) → W pp l ee (headSpec (gw yn_F_proveGrowth cn_F_proveGrowth 8 (some .boolean)) (rm_ 3 64)).room ss mm ar be me cd H locs 0 0 Q (F0 mm 54 ls []) := by
        intro n_
        induction n_ using Nat.strongRecOn with
        | ind n_ ih =>
          intro i ls H locs hn_ hl hP hD hS hi
          refine lv_iload hx hb dn_F_proveGrowth_54 (lv_at hl 7 rfl) ?_
          refine lv_aload_n hx hb dn_F_proveGrowth_56 rfl (lv_at hl 0 rfl) ?_
          refine va_get (D := (dC, dI)) (ci := 2) (v := .int (nI c)) (C := rn_F) (T := tn_F) (N := 2) hx hb hw ml_F hown hK hP 0 rfl rfl 1 (by decide) (hw _ mw_92) (fun _ h9 => h9) rfl dn_F_proveGrowth_57 ?_
          refine gr_cge (tgt := 123) hx hb (0 + i) c rfl rfl (by omega) (by omega) dn_F_proveGrowth_60 (by decide) (fun h60 => ?_) (fun h60 => ?_)
          · skip
            obtain rfl : st = i := by omega
            refine lv_iload hx hb dn_F_proveGrowth_123 (lv_at hl 5 rfl) ?_
            refine lv_iload_n hx hb dn_F_proveGrowth_125 rfl (lv_at hl 2 rfl) ?_
            refine lv_icmp_ne (tgt := 139) hx hb dn_F_proveGrowth_126 (by decide) (fun h126 => ?_) (fun h126 => ?_)
            · skip
              refine lv_iconst (v := 0) hx hb dn_F_proveGrowth_139 (by decide) ?_
              exact hret 0 () _ _ _ _ (Or.inr ⟨rfl, fun q => by first | exact h132 q.2.2 | exact h126 q.2.1⟩) rfl hP hD hS dn_F_proveGrowth_140
            · skip
              refine lv_iload hx hb dn_F_proveGrowth_129 (lv_at hl 6 rfl) ?_
              refine lv_iload_n hx hb dn_F_proveGrowth_131 rfl (lv_at hl 3 rfl) ?_
              refine lv_icmp_ne (tgt := 139) hx hb dn_F_proveGrowth_132 (by decide) (fun h132 => ?_) (fun h132 => ?_)
              · skip
                refine lv_iconst (v := 0) hx hb dn_F_proveGrowth_139 (by decide) ?_
                exact hret 0 () _ _ _ _ (Or.inr ⟨rfl, fun q => by first | exact h132 q.2.2 | exact h126 q.2.1⟩) rfl hP hD hS dn_F_proveGrowth_140
              · skip
                refine lv_iconst (v := 1) hx hb dn_F_proveGrowth_135 (by decide) ?_
                refine lv_goto (tgt := 140) hx hb dn_F_proveGrowth_136 (by decide) ?_
                exact hret 1 () _ _ _ _ (Or.inl ⟨rfl, h8, h126, h132⟩) rfl hP hD hS dn_F_proveGrowth_140
          · skip
            refine lv_aload_n hx hb dn_F_proveGrowth_63 rfl (lv_at hl 1 rfl) ?_
            refine lv_iload hx hb dn_F_proveGrowth_64 (lv_at hl 7 rfl) ?_
            refine gc_vi (pre := [(a0, .inr (2, [.ref a1, .int (nI c)])), (a1, .inl (cI, 12, .inl fd))]) (wc := [(b0, .inr (1, [.ref b1, .ref b2, .ref b3, .int (nI st), .int (nI ((ds_at t n st).1)), .int (nI ((ds_at t n st).2)), .int (nI 0)])), (b1, .inl (cZ, 6, .inl X)), (b2, .inl (cI, 6, .inl Y)), (b3, .inl (cI, 6, .inl Z))]) (po := []) (As := [.int (nI (0 + i))]) (rest := []) ⟨hx, hb, hml, hown, hw⟩ (c_E_wentRightAbove l dC dI cI cZ b0 b1 b2 b3 X Y Z t n st 0 (by omega) (by omega) har (0 + i) (st - 1 - i) (by omega)) (gw_cV 1 hw mw_388 mw_389 mw_390 mw_4 mw_391 hd_E_wentRightAbove ⟨Nat.le_of_ble_eq_true rfl, Nat.le_of_ble_eq_true rfl⟩) (ci := 1) rfl rfl rfl hK hP hD hS hA rfl hl.1 rfl (Nat.le_of_ble_eq_true rfl) dn_F_proveGrowth_66 ⟨Nat.zero_le _, Nat.zero_le _⟩ (fun r66 u66 H locs hc66 hP hD hS => ?_)
            have hP : va_P (dC, dI) vwCl [(a0, .inr (2, [.ref a1, .int (nI c)])), (a1, .inl (cI, 12, .inl fd)), (b0, .inr (1, [.ref b1, .ref b2, .ref b3, .int (nI st), .int (nI ((ds_at t n st).1)), .int (nI ((ds_at t n st).2)), .int (nI 0)])), (b1, .inl (cZ, 6, .inl X)), (b2, .inl (cI, 6, .inl Y)), (b3, .inl (cI, 6, .inl Z))] H := hP
            have hD : va_D A [(a0, .inr (2, [.ref a1, .int (nI c)])), (a1, .inl (cI, 12, .inl fd)), (b0, .inr (1, [.ref b1, .ref b2, .ref b3, .int (nI st), .int (nI ((ds_at t n st).1)), .int (nI ((ds_at t n st).2)), .int (nI 0)])), (b1, .inl (cZ, 6, .inl X)), (b2, .inl (cI, 6, .inl Y)), (b3, .inl (cI, 6, .inl Z))] := hD
            rcases hc66 with ⟨rfl, hw66⟩ | ⟨rfl, hw66⟩
            · skip
              refine lv_if_eq (tgt := 103) hx hb dn_F_proveGrowth_69 (by decide) (fun h => absurd h (by decide)) (fun _ => ?_)
              refine lv_aload_n hx hb dn_F_proveGrowth_72 rfl (lv_at hl 0 rfl) ?_
              refine va_get (D := (dC, dI)) (ci := 2) (v := .ref a1) (C := rn_F) (T := tn_F) (N := 2) hx hb hw ml_F hown hK hP 0 rfl rfl 0 (by decide) (hw _ mw_91) (fun _ h9 => h9) rfl dn_F_proveGrowth_73 ?_
              refine lv_iload hx hb dn_F_proveGrowth_76 (lv_at hl 7 rfl) ?_
              refine gr_iald hx hb hK hP 1 0 rfl rfl (0 + i) rfl (by omega) (by decide) dn_F_proveGrowth_78 ?_
              refine lv_iload hx hb dn_F_proveGrowth_79 (lv_at hl 5 rfl) ?_
              refine gc_s0 (v := (hf_node (fd (0 + i)) (pf_old fd early 0 t n st i))) (As := [.int (fd (0 + i)), .int (pf_old fd early 0 t n st i)]) (rest := []) ⟨hx, hb, hml, hown, hw⟩ (c_H_node l dC dI cI cZ (fd (0 + i)) (pf_old fd early 0 t n st i)) (gw_cS 2 hw mw_392 mw_315 mw_7 mw_316 hd_H_node ⟨Nat.le_of_ble_eq_true rfl, Nat.le_of_ble_eq_true rfl⟩) hK hP hD hS hA rfl hl.1 rfl (Nat.le_of_ble_eq_true rfl) dn_F_proveGrowth_81 ⟨Nat.zero_le _, Nat.zero_le _⟩ (fun H locs hP hD hS => ?_)
              refine gr_top (y := pf_old fd early 0 t n st (i + 1)) (by rw [pf_old]; first | rw [if_pos hw66.2] | rw [if_neg (fun z => hw66 ⟨by omega, z⟩)]) ?_
              refine lv_istore (lv' := [(5, .int (pf_old fd early 0 t n st (i + 1))), (0, .ref a0), (1, .ref b0), (2, .int early), (3, .int late), (4, .int early), (6, .int (pf_new fd early 0 t n st i)), (7, .int (nI (0 + i)))]) hx hb dn_F_proveGrowth_84 hl (by decide) rfl (fun ls hl => ?_)
              refine lv_aload_n hx hb dn_F_proveGrowth_86 rfl (lv_at hl 1 rfl) ?_
              refine va_get (D := (dC, dI)) (ci := 2) (v := .ref a1) (C := rn_F) (T := tn_F) (N := 2) hx hb hw ml_F hown hK hP 0 rfl rfl 0 (by decide) (hw _ mw_91) (fun _ h9 => h9) rfl dn_F_proveGrowth_87 ?_
              refine lv_iload hx hb dn_F_proveGrowth_90 (lv_at hl 7 rfl) ?_
              refine gr_iald hx hb hK hP 1 0 rfl rfl (0 + i) rfl (by omega) (by decide) dn_F_proveGrowth_92 ?_
              refine lv_iload hx hb dn_F_proveGrowth_93 (lv_at hl 6 rfl) ?_
              refine gc_s0 (v := (hf_node (fd (0 + i)) (pf_new fd early 0 t n st i))) (As := [.int (fd (0 + i)), .int (pf_new fd early 0 t n st i)]) (rest := []) ⟨hx, hb, hml, hown, hw⟩ (c_H_node l dC dI cI cZ (fd (0 + i)) (pf_new fd early 0 t n st i)) (gw_cS 2 hw mw_392 mw_315 mw_7 mw_316 hd_H_node ⟨Nat.le_of_ble_eq_true rfl, Nat.le_of_ble_eq_true rfl⟩) hK hP hD hS hA rfl hl.1 rfl (Nat.le_of_ble_eq_true rfl) dn_F_proveGrowth_95 ⟨Nat.zero_le _, Nat.zero_le _⟩ (fun H locs hP hD hS => ?_)
              refine gr_top (y := pf_new fd early 0 t n st (i + 1)) (by rw [pf_new]; first | rw [if_pos hw66.2] | rw [if_neg (fun z => hw66 ⟨by omega, z⟩)]) ?_
              refine lv_istore (lv' := [(6, .int (pf_new fd early 0 t n st (i + 1))), (5, .int (pf_old fd early 0 t n st (i + 1))), (0, .ref a0), (1, .ref b0), (2, .int early), (3, .int late), (4, .int early), (7, .int (nI (0 + i)))]) hx hb dn_F_proveGrowth_98 hl (by decide) rfl (fun ls hl => ?_)
              refine lv_goto (tgt := 117) hx hb dn_F_proveGrowth_100 (by decide) ?_
              refine lv_iinc (lv' := [(7, .int (nI ((0 + i) + 1))), (6, .int (pf_new fd early 0 t n st (i + 1))), (5, .int (pf_old fd early 0 t n st (i + 1))), (0, .ref a0), (1, .ref b0), (2, .int early), (3, .int late), (4, .int early)]) (v := (nI ((0 + i) + 1))) (k := 7) hx hb dn_F_proveGrowth_117 hl rfl (nI_add (0 + i) 1) (by decide) rfl (fun ls hl => ?_)
              refine lv_goto (tgt := 54) hx hb dn_F_proveGrowth_120 (by decide) ?_
              exact ih (st - (i + 1)) (by omega) (i + 1) ls H locs rfl (lv_sub hl [3, 4, 5, 6, 7, 2, 1, 0] rfl) hP hD hS (by omega)
            · skip
              refine lv_if_eq (tgt := 103) hx hb dn_F_proveGrowth_69 (by decide) (fun _ => ?_) (fun h => absurd h (by decide))
              refine lv_iload hx hb dn_F_proveGrowth_103 (lv_at hl 6 rfl) ?_
              refine lv_aload_n hx hb dn_F_proveGrowth_105 rfl (lv_at hl 0 rfl) ?_
              refine va_get (D := (dC, dI)) (ci := 2) (v := .ref a1) (C := rn_F) (T := tn_F) (N := 2) hx hb hw ml_F hown hK hP 0 rfl rfl 0 (by decide) (hw _ mw_91) (fun _ h9 => h9) rfl dn_F_proveGrowth_106 ?_
              refine lv_iload hx hb dn_F_proveGrowth_109 (lv_at hl 7 rfl) ?_
              refine gr_iald hx hb hK hP 1 0 rfl rfl (0 + i) rfl (by omega) (by decide) dn_F_proveGrowth_111 ?_
              refine gc_s0 (v := (hf_node (pf_new fd early 0 t n st i) (fd (0 + i)))) (As := [.int (pf_new fd early 0 t n st i), .int (fd (0 + i))]) (rest := []) ⟨hx, hb, hml, hown, hw⟩ (c_H_node l dC dI cI cZ (pf_new fd early 0 t n st i) (fd (0 + i))) (gw_cS 2 hw mw_392 mw_315 mw_7 mw_316 hd_H_node ⟨Nat.le_of_ble_eq_true rfl, Nat.le_of_ble_eq_true rfl⟩) hK hP hD hS hA rfl hl.1 rfl (Nat.le_of_ble_eq_true rfl) dn_F_proveGrowth_112 ⟨Nat.zero_le _, Nat.zero_le _⟩ (fun H locs hP hD hS => ?_)
              refine gr_top (y := pf_new fd early 0 t n st (i + 1)) (by rw [pf_new]; first | rw [if_pos hw66.2] | rw [if_neg (fun z => hw66 ⟨by omega, z⟩)]) ?_
              rw [show pf_old fd early 0 t n st i = pf_old fd early 0 t n st (i + 1) from by rw [pf_old, if_neg (fun z => hw66 ⟨by omega, z⟩)]] at hl
              refine lv_istore (lv' := [(6, .int (pf_new fd early 0 t n st (i + 1))), (0, .ref a0), (1, .ref b0), (2, .int early), (3, .int late), (4, .int early), (5, .int (pf_old fd early 0 t n st (i + 1))), (7, .int (nI (0 + i)))]) hx hb dn_F_proveGrowth_115 hl (by decide) rfl (fun ls hl => ?_)
              refine lv_iinc (lv' := [(7, .int (nI ((0 + i) + 1))), (6, .int (pf_new fd early 0 t n st (i + 1))), (0, .ref a0), (1, .ref b0), (2, .int early), (3, .int late), (4, .int early), (5, .int (pf_old fd early 0 t n st (i + 1)))]) (v := (nI ((0 + i) + 1))) (k := 7) hx hb dn_F_proveGrowth_117 hl rfl (nI_add (0 + i) 1) (by decide) rfl (fun ls hl => ?_)
              refine lv_goto (tgt := 54) hx hb dn_F_proveGrowth_120 (by decide) ?_
              exact ih (st - (i + 1)) (by omega) (i + 1) ls H locs rfl (lv_sub hl [2, 3, 4, 5, 6, 7, 1, 0] rfl) hP hD hS (by omega)
      exact lp54 _ 0 ls H locs rfl (lv_sub hl [4, 5, 6, 7, 3, 2, 1, 0] rfl) hP hD hS (Nat.zero_le _)
    · skip
      obtain rfl : 1 = b := by omega
      refine lv_aload_n hx hb dn_F_proveGrowth_20 rfl (lv_at hl 0 rfl) ?_
      refine va_get (D := (dC, dI)) (ci := 2) (v := .ref a1) (C := rn_F) (T := tn_F) (N := 2) hx hb hw ml_F hown hK hP 0 rfl rfl 0 (by decide) (hw _ mw_91) (fun _ h9 => h9) rfl dn_F_proveGrowth_21 ?_
      refine lv_iconst (v := 0) hx hb dn_F_proveGrowth_24 (by decide) ?_
      refine gr_iald hx hb hK hP 1 0 rfl rfl 0 rfl (by omega) (by decide) dn_F_proveGrowth_25 ?_
      refine lv_goto (tgt := 30) hx hb dn_F_proveGrowth_26 (by decide) ?_
      refine lv_istore (lv' := [(4, .int (fd 0)), (0, .ref a0), (1, .ref b0), (2, .int early), (3, .int late)]) hx hb dn_F_proveGrowth_30 hl (by decide) rfl (fun ls hl => ?_)
      refine lv_iload hx hb dn_F_proveGrowth_32 (lv_at hl 0 rfl) ?_
      refine lv_istore (lv' := [(5, .int (fd 0)), (4, .int (fd 0)), (0, .ref a0), (1, .ref b0), (2, .int early), (3, .int late)]) hx hb dn_F_proveGrowth_34 hl (by decide) rfl (fun ls hl => ?_)
      refine lv_iload hx hb dn_F_proveGrowth_36 (lv_at hl 1 rfl) ?_
      refine lv_istore (lv' := [(6, .int (fd 0)), (5, .int (fd 0)), (4, .int (fd 0)), (0, .ref a0), (1, .ref b0), (2, .int early), (3, .int late)]) hx hb dn_F_proveGrowth_38 hl (by decide) rfl (fun ls hl => ?_)
      refine lv_aload_n hx hb dn_F_proveGrowth_40 rfl (lv_at hl 4 rfl) ?_
      refine gc_vi (pre := [(a0, .inr (2, [.ref a1, .int (nI c)])), (a1, .inl (cI, 12, .inl fd))]) (wc := [(b0, .inr (1, [.ref b1, .ref b2, .ref b3, .int (nI st), .int (nI ((ds_at t n st).1)), .int (nI ((ds_at t n st).2)), .int 1])), (b1, .inl (cZ, 6, .inl X)), (b2, .inl (cI, 6, .inl Y)), (b3, .inl (cI, 6, .inl Z))]) (po := []) (As := []) (rest := []) ⟨hx, hb, hml, hown, hw⟩ (c_E_showsFoot l dC dI cI cZ b0 b1 b2 b3 X Y Z st ((ds_at t n st).1) ((ds_at t n st).2) 1 (by omega) (by omega) ) (gw_cV 0 hw mw_405 mw_406 mw_407 mw_4 mw_408 hd_E_showsFoot ⟨Nat.le_of_ble_eq_true rfl, Nat.le_of_ble_eq_true rfl⟩) (ci := 1) rfl rfl rfl hK hP hD hS hA rfl hl.1 rfl (Nat.le_of_ble_eq_true rfl) dn_F_proveGrowth_41 ⟨Nat.zero_le _, Nat.zero_le _⟩ (fun r41 u41 H locs hc41 hP hD hS => ?_)
      subst hc41
      have hP : va_P (dC, dI) vwCl [(a0, .inr (2, [.ref a1, .int (nI c)])), (a1, .inl (cI, 12, .inl fd)), (b0, .inr (1, [.ref b1, .ref b2, .ref b3, .int (nI st), .int (nI ((ds_at t n st).1)), .int (nI ((ds_at t n st).2)), .int 1])), (b1, .inl (cZ, 6, .inl X)), (b2, .inl (cI, 6, .inl Y)), (b3, .inl (cI, 6, .inl Z))] H := hP
      have hD : va_D A [(a0, .inr (2, [.ref a1, .int (nI c)])), (a1, .inl (cI, 12, .inl fd)), (b0, .inr (1, [.ref b1, .ref b2, .ref b3, .int (nI st), .int (nI ((ds_at t n st).1)), .int (nI ((ds_at t n st).2)), .int 1])), (b1, .inl (cZ, 6, .inl X)), (b2, .inl (cI, 6, .inl Y)), (b3, .inl (cI, 6, .inl Z))] := hD
      refine lv_if_eq (tgt := 51) hx hb dn_F_proveGrowth_44 (by decide) (fun h => absurd h (by decide)) (fun _ => ?_)
      refine lv_iconst (v := 1) hx hb dn_F_proveGrowth_47 (by decide) ?_
      refine lv_goto (tgt := 52) hx hb dn_F_proveGrowth_48 (by decide) ?_
      refine lv_istore (lv' := [(7, .int 1), (6, .int (fd 0)), (5, .int (fd 0)), (4, .int (fd 0)), (0, .ref a0), (1, .ref b0), (2, .int early), (3, .int late)]) hx hb dn_F_proveGrowth_52 hl (by decide) rfl (fun ls hl => ?_)
      have lp54 : ∀ (n_ : Nat) (i : Nat) (ls : Array Slot) (H : Heap) (locs : List Loc), st - i = n_ → lv_has ls 8 [(0, .ref a0), (1, .ref b0), (2, .int early), (3, .int late), (4, .int (fd 0)), (5, .int (pf_old fd (fd 0) 1 t n st i)), (6, .int (pf_new fd (fd 0) 1 t n st i)), (7, .int (nI (1 + i)))] → va_P (dC, dI) vwCl [(a0, .inr (2, [.ref a1, .int (nI c)])), (a1, .inl (cI, 12, .inl fd)), (b0, .inr (1, [.ref b1, .ref b2, .ref b3, .int (nI st), .int (nI ((ds_at t n st).1)), .int (nI ((ds_at t n st).2)), .int (nI 1)])), (b1, .inl (cZ, 6, .inl X)), (b2, .inl (cI, 6, .inl Y)), (b3, .inl (cI, 6, .inl Z))] H → va_D A [(a0, .inr (2, [.ref a1, .int (nI c)])), (a1, .inl (cI, 12, .inl fd)), (b0, .inr (1, [.ref b1, .ref b2, .ref b3, .int (nI st), .int (nI ((ds_at t n st).1)), .int (nI ((ds_at t n st).2)), .int (nI 1)])), (b1, .inl (cZ, 6, .inl X)), (b2, .inl (cI, 6, .inl Y)), (b3, .inl (cI, 6, .inl Z))] → va_S A H0 H locs → (i ≤ st) → W pp l ee (headSpec (gw yn_F_proveGrowth cn_F_proveGrowth 8 (some .boolean)) (rm_ 3 64)).room ss mm ar be me cd H locs 0 0 Q (F0 mm 54 ls []) := by
        intro n_
        induction n_ using Nat.strongRecOn with
        | ind n_ ih =>
          intro i ls H locs hn_ hl hP hD hS hi
          refine lv_iload hx hb dn_F_proveGrowth_54 (lv_at hl 7 rfl) ?_
          refine lv_aload_n hx hb dn_F_proveGrowth_56 rfl (lv_at hl 0 rfl) ?_
          refine va_get (D := (dC, dI)) (ci := 2) (v := .int (nI c)) (C := rn_F) (T := tn_F) (N := 2) hx hb hw ml_F hown hK hP 0 rfl rfl 1 (by decide) (hw _ mw_92) (fun _ h9 => h9) rfl dn_F_proveGrowth_57 ?_
          refine gr_cge (tgt := 123) hx hb (1 + i) c rfl rfl (by omega) (by omega) dn_F_proveGrowth_60 (by decide) (fun h60 => ?_) (fun h60 => ?_)
          · skip
            obtain rfl : st = i := by omega
            refine lv_iload hx hb dn_F_proveGrowth_123 (lv_at hl 5 rfl) ?_
            refine lv_iload_n hx hb dn_F_proveGrowth_125 rfl (lv_at hl 2 rfl) ?_
            refine lv_icmp_ne (tgt := 139) hx hb dn_F_proveGrowth_126 (by decide) (fun h126 => ?_) (fun h126 => ?_)
            · skip
              refine lv_iconst (v := 0) hx hb dn_F_proveGrowth_139 (by decide) ?_
              exact hret 0 () _ _ _ _ (Or.inr ⟨rfl, fun q => by first | exact h132 q.2.2 | exact h126 q.2.1⟩) rfl hP hD hS dn_F_proveGrowth_140
            · skip
              refine lv_iload hx hb dn_F_proveGrowth_129 (lv_at hl 6 rfl) ?_
              refine lv_iload_n hx hb dn_F_proveGrowth_131 rfl (lv_at hl 3 rfl) ?_
              refine lv_icmp_ne (tgt := 139) hx hb dn_F_proveGrowth_132 (by decide) (fun h132 => ?_) (fun h132 => ?_)
              · skip
                refine lv_iconst (v := 0) hx hb dn_F_proveGrowth_139 (by decide) ?_
                exact hret 0 () _ _ _ _ (Or.inr ⟨rfl, fun q => by first | exact h132 q.2.2 | exact h126 q.2.1⟩) rfl hP hD hS dn_F_proveGrowth_140
              · skip
                refine lv_iconst (v := 1) hx hb dn_F_proveGrowth_135 (by decide) ?_
                refine lv_goto (tgt := 140) hx hb dn_F_proveGrowth_136 (by decide) ?_
                exact hret 1 () _ _ _ _ (Or.inl ⟨rfl, h8, h126, h132⟩) rfl hP hD hS dn_F_proveGrowth_140
          · skip
            refine lv_aload_n hx hb dn_F_proveGrowth_63 rfl (lv_at hl 1 rfl) ?_
            refine lv_iload hx hb dn_F_proveGrowth_64 (lv_at hl 7 rfl) ?_
            refine gc_vi (pre := [(a0, .inr (2, [.ref a1, .int (nI c)])), (a1, .inl (cI, 12, .inl fd))]) (wc := [(b0, .inr (1, [.ref b1, .ref b2, .ref b3, .int (nI st), .int (nI ((ds_at t n st).1)), .int (nI ((ds_at t n st).2)), .int (nI 1)])), (b1, .inl (cZ, 6, .inl X)), (b2, .inl (cI, 6, .inl Y)), (b3, .inl (cI, 6, .inl Z))]) (po := []) (As := [.int (nI (1 + i))]) (rest := []) ⟨hx, hb, hml, hown, hw⟩ (c_E_wentRightAbove l dC dI cI cZ b0 b1 b2 b3 X Y Z t n st 1 (by omega) (by omega) har (1 + i) (st - 1 - i) (by omega)) (gw_cV 1 hw mw_388 mw_389 mw_390 mw_4 mw_391 hd_E_wentRightAbove ⟨Nat.le_of_ble_eq_true rfl, Nat.le_of_ble_eq_true rfl⟩) (ci := 1) rfl rfl rfl hK hP hD hS hA rfl hl.1 rfl (Nat.le_of_ble_eq_true rfl) dn_F_proveGrowth_66 ⟨Nat.zero_le _, Nat.zero_le _⟩ (fun r66 u66 H locs hc66 hP hD hS => ?_)
            have hP : va_P (dC, dI) vwCl [(a0, .inr (2, [.ref a1, .int (nI c)])), (a1, .inl (cI, 12, .inl fd)), (b0, .inr (1, [.ref b1, .ref b2, .ref b3, .int (nI st), .int (nI ((ds_at t n st).1)), .int (nI ((ds_at t n st).2)), .int (nI 1)])), (b1, .inl (cZ, 6, .inl X)), (b2, .inl (cI, 6, .inl Y)), (b3, .inl (cI, 6, .inl Z))] H := hP
            have hD : va_D A [(a0, .inr (2, [.ref a1, .int (nI c)])), (a1, .inl (cI, 12, .inl fd)), (b0, .inr (1, [.ref b1, .ref b2, .ref b3, .int (nI st), .int (nI ((ds_at t n st).1)), .int (nI ((ds_at t n st).2)), .int (nI 1)])), (b1, .inl (cZ, 6, .inl X)), (b2, .inl (cI, 6, .inl Y)), (b3, .inl (cI, 6, .inl Z))] := hD
            rcases hc66 with ⟨rfl, hw66⟩ | ⟨rfl, hw66⟩
            · skip
              refine lv_if_eq (tgt := 103) hx hb dn_F_proveGrowth_69 (by decide) (fun h => absurd h (by decide)) (fun _ => ?_)
              refine lv_aload_n hx hb dn_F_proveGrowth_72 rfl (lv_at hl 0 rfl) ?_
              refine va_get (D := (dC, dI)) (ci := 2) (v := .ref a1) (C := rn_F) (T := tn_F) (N := 2) hx hb hw ml_F hown hK hP 0 rfl rfl 0 (by decide) (hw _ mw_91) (fun _ h9 => h9) rfl dn_F_proveGrowth_73 ?_
              refine lv_iload hx hb dn_F_proveGrowth_76 (lv_at hl 7 rfl) ?_
              refine gr_iald hx hb hK hP 1 0 rfl rfl (1 + i) rfl (by omega) (by decide) dn_F_proveGrowth_78 ?_
              refine lv_iload hx hb dn_F_proveGrowth_79 (lv_at hl 5 rfl) ?_
              refine gc_s0 (v := (hf_node (fd (1 + i)) (pf_old fd (fd 0) 1 t n st i))) (As := [.int (fd (1 + i)), .int (pf_old fd (fd 0) 1 t n st i)]) (rest := []) ⟨hx, hb, hml, hown, hw⟩ (c_H_node l dC dI cI cZ (fd (1 + i)) (pf_old fd (fd 0) 1 t n st i)) (gw_cS 2 hw mw_392 mw_315 mw_7 mw_316 hd_H_node ⟨Nat.le_of_ble_eq_true rfl, Nat.le_of_ble_eq_true rfl⟩) hK hP hD hS hA rfl hl.1 rfl (Nat.le_of_ble_eq_true rfl) dn_F_proveGrowth_81 ⟨Nat.zero_le _, Nat.zero_le _⟩ (fun H locs hP hD hS => ?_)
              refine gr_top (y := pf_old fd (fd 0) 1 t n st (i + 1)) (by rw [pf_old]; first | rw [if_pos hw66.2] | rw [if_neg (fun z => hw66 ⟨by omega, z⟩)]) ?_
              refine lv_istore (lv' := [(5, .int (pf_old fd (fd 0) 1 t n st (i + 1))), (0, .ref a0), (1, .ref b0), (2, .int early), (3, .int late), (4, .int (fd 0)), (6, .int (pf_new fd (fd 0) 1 t n st i)), (7, .int (nI (1 + i)))]) hx hb dn_F_proveGrowth_84 hl (by decide) rfl (fun ls hl => ?_)
              refine lv_aload_n hx hb dn_F_proveGrowth_86 rfl (lv_at hl 1 rfl) ?_
              refine va_get (D := (dC, dI)) (ci := 2) (v := .ref a1) (C := rn_F) (T := tn_F) (N := 2) hx hb hw ml_F hown hK hP 0 rfl rfl 0 (by decide) (hw _ mw_91) (fun _ h9 => h9) rfl dn_F_proveGrowth_87 ?_
              refine lv_iload hx hb dn_F_proveGrowth_90 (lv_at hl 7 rfl) ?_
              refine gr_iald hx hb hK hP 1 0 rfl rfl (1 + i) rfl (by omega) (by decide) dn_F_proveGrowth_92 ?_
              refine lv_iload hx hb dn_F_proveGrowth_93 (lv_at hl 6 rfl) ?_
              refine gc_s0 (v := (hf_node (fd (1 + i)) (pf_new fd (fd 0) 1 t n st i))) (As := [.int (fd (1 + i)), .int (pf_new fd (fd 0) 1 t n st i)]) (rest := []) ⟨hx, hb, hml, hown, hw⟩ (c_H_node l dC dI cI cZ (fd (1 + i)) (pf_new fd (fd 0) 1 t n st i)) (gw_cS 2 hw mw_392 mw_315 mw_7 mw_316 hd_H_node ⟨Nat.le_of_ble_eq_true rfl, Nat.le_of_ble_eq_true rfl⟩) hK hP hD hS hA rfl hl.1 rfl (Nat.le_of_ble_eq_true rfl) dn_F_proveGrowth_95 ⟨Nat.zero_le _, Nat.zero_le _⟩ (fun H locs hP hD hS => ?_)
              refine gr_top (y := pf_new fd (fd 0) 1 t n st (i + 1)) (by rw [pf_new]; first | rw [if_pos hw66.2] | rw [if_neg (fun z => hw66 ⟨by omega, z⟩)]) ?_
              refine lv_istore (lv' := [(6, .int (pf_new fd (fd 0) 1 t n st (i + 1))), (5, .int (pf_old fd (fd 0) 1 t n st (i + 1))), (0, .ref a0), (1, .ref b0), (2, .int early), (3, .int late), (4, .int (fd 0)), (7, .int (nI (1 + i)))]) hx hb dn_F_proveGrowth_98 hl (by decide) rfl (fun ls hl => ?_)
              refine lv_goto (tgt := 117) hx hb dn_F_proveGrowth_100 (by decide) ?_
              refine lv_iinc (lv' := [(7, .int (nI ((1 + i) + 1))), (6, .int (pf_new fd (fd 0) 1 t n st (i + 1))), (5, .int (pf_old fd (fd 0) 1 t n st (i + 1))), (0, .ref a0), (1, .ref b0), (2, .int early), (3, .int late), (4, .int (fd 0))]) (v := (nI ((1 + i) + 1))) (k := 7) hx hb dn_F_proveGrowth_117 hl rfl (nI_add (1 + i) 1) (by decide) rfl (fun ls hl => ?_)
              refine lv_goto (tgt := 54) hx hb dn_F_proveGrowth_120 (by decide) ?_
              exact ih (st - (i + 1)) (by omega) (i + 1) ls H locs rfl (lv_sub hl [3, 4, 5, 6, 7, 2, 1, 0] rfl) hP hD hS (by omega)
            · skip
              refine lv_if_eq (tgt := 103) hx hb dn_F_proveGrowth_69 (by decide) (fun _ => ?_) (fun h => absurd h (by decide))
              refine lv_iload hx hb dn_F_proveGrowth_103 (lv_at hl 6 rfl) ?_
              refine lv_aload_n hx hb dn_F_proveGrowth_105 rfl (lv_at hl 0 rfl) ?_
              refine va_get (D := (dC, dI)) (ci := 2) (v := .ref a1) (C := rn_F) (T := tn_F) (N := 2) hx hb hw ml_F hown hK hP 0 rfl rfl 0 (by decide) (hw _ mw_91) (fun _ h9 => h9) rfl dn_F_proveGrowth_106 ?_
              refine lv_iload hx hb dn_F_proveGrowth_109 (lv_at hl 7 rfl) ?_
              refine gr_iald hx hb hK hP 1 0 rfl rfl (1 + i) rfl (by omega) (by decide) dn_F_proveGrowth_111 ?_
              refine gc_s0 (v := (hf_node (pf_new fd (fd 0) 1 t n st i) (fd (1 + i)))) (As := [.int (pf_new fd (fd 0) 1 t n st i), .int (fd (1 + i))]) (rest := []) ⟨hx, hb, hml, hown, hw⟩ (c_H_node l dC dI cI cZ (pf_new fd (fd 0) 1 t n st i) (fd (1 + i))) (gw_cS 2 hw mw_392 mw_315 mw_7 mw_316 hd_H_node ⟨Nat.le_of_ble_eq_true rfl, Nat.le_of_ble_eq_true rfl⟩) hK hP hD hS hA rfl hl.1 rfl (Nat.le_of_ble_eq_true rfl) dn_F_proveGrowth_112 ⟨Nat.zero_le _, Nat.zero_le _⟩ (fun H locs hP hD hS => ?_)
              refine gr_top (y := pf_new fd (fd 0) 1 t n st (i + 1)) (by rw [pf_new]; first | rw [if_pos hw66.2] | rw [if_neg (fun z => hw66 ⟨by omega, z⟩)]) ?_
              rw [show pf_old fd (fd 0) 1 t n st i = pf_old fd (fd 0) 1 t n st (i + 1) from by rw [pf_old, if_neg (fun z => hw66 ⟨by omega, z⟩)]] at hl
              refine lv_istore (lv' := [(6, .int (pf_new fd (fd 0) 1 t n st (i + 1))), (0, .ref a0), (1, .ref b0), (2, .int early), (3, .int late), (4, .int (fd 0)), (5, .int (pf_old fd (fd 0) 1 t n st (i + 1))), (7, .int (nI (1 + i)))]) hx hb dn_F_proveGrowth_115 hl (by decide) rfl (fun ls hl => ?_)
              refine lv_iinc (lv' := [(7, .int (nI ((1 + i) + 1))), (6, .int (pf_new fd (fd 0) 1 t n st (i + 1))), (0, .ref a0), (1, .ref b0), (2, .int early), (3, .int late), (4, .int (fd 0)), (5, .int (pf_old fd (fd 0) 1 t n st (i + 1)))]) (v := (nI ((1 + i) + 1))) (k := 7) hx hb dn_F_proveGrowth_117 hl rfl (nI_add (1 + i) 1) (by decide) rfl (fun ls hl => ?_)
              refine lv_goto (tgt := 54) hx hb dn_F_proveGrowth_120 (by decide) ?_
              exact ih (st - (i + 1)) (by omega) (i + 1) ls H locs rfl (lv_sub hl [2, 3, 4, 5, 6, 7, 1, 0] rfl) hP hD hS (by omega)
      exact lp54 _ 0 ls H locs rfl (lv_sub hl [4, 5, 6, 7, 3, 2, 1, 0] rfl) hP hD hS (Nat.zero_le _)
  · skip
    refine lv_iconst (v := 0) hx hb dn_F_proveGrowth_11 (by decide) ?_
    exact hret 0 () _ _ _ _ (Or.inr ⟨rfl, fun q => h8 q.1⟩) rfl hP hD hS dn_F_proveGrowth_12
end
section
/-! the archive's requests as one function of its words -/
theorem ct_ex (f : Nat → Int32) (k : Int32) : ∃ n, ct_n f k n := by
  by_cases h : ∃ n, n < 40 ∧ ¬ ct_ok f k n
  · obtain ⟨n, hn, hl⟩ := pk_least (fun n => n < 40 ∧ ¬ ct_ok f k n) h
    refine ⟨n, by omega, fun r hr => ?_, fun _ => hn.2⟩
    exact Classical.byContradiction fun q => hl r hr ⟨by omega, q⟩
  · refine ⟨40, Nat.le_refl _, fun r hr => ?_, fun q => absurd q (by omega)⟩
    exact Classical.byContradiction fun q => h ⟨r, hr, q⟩
/-- the number of sound records -/
noncomputable def ct_N (f : Nat → Int32) (k : Int32) : Nat := Classical.choose (ct_ex f k)
theorem ct_N_n (f : Nat → Int32) (k : Int32) : ct_n f k (ct_N f k) := Classical.choose_spec (ct_ex f k)
theorem ct_N_is {f : Nat → Int32} {k : Int32} {n : Nat} (h : ct_n f k n) : ct_N f k = n := ct_n_uq (ct_N_n f k) h
/-- while the power is on: the class's objects are the image's, and no word stands behind the sound records -/
def xr (f : Nat → Int32) (clk : Nat) (pw : Int32) (K : ct_T) (en : Nat) : Prop := (pw = 0 ∨ pw = 1) ∧ K.1 ≤ 12 ∧ en ≤ 40 ∧ (pw = 1 → ct_n f (nI clk) en ∧ ct_eq K (ct_st f en) ∧ ∀ j, 7 * en ≤ j → j < 280 → f j = 0)
/-- a request without new words of its own -/
def pl_w (f : Nat → Int32) (lf : Int32) (clk n : Nat) (kind id v : Int32) : wr_T :=
  if kind = 6 then wr_1 (wr_n (f, 1, lf) (7 * n) (rc_w kind id v 0 0 (nI clk)) 7) (279 + id.toNatClampNeg) 0 else wr_n (f, 1, lf) (7 * n) (rc_w kind id v 0 0 (nI clk)) 7
def pu_w (f : Nat → Int32) (lf : Int32) (clk n : Nat) (a b key date : Int32) : wr_T :=
  wr_n (wr_1 (f, 1, lf) (279 + ((ct_st f n).1 + 1)) key) (7 * n) (rc_w 1 (nI ((ct_st f n).1 + 1)) date (a ^^^ hf_pad key (nI ((ct_st f n).1 + 1)) 0) (b ^^^ hf_pad key (nI ((ct_st f n).1 + 1)) 1) (nI clk)) 7
/-- the refusal: 0 if there is none -/
noncomputable def an_no (f : Nat → Int32) (clk : Nat) (pw kind id v : Int32) : Int32 := if pw = 1 then ct_vd (ct_st f (ct_N f (nI clk))) (ct_N f (nI clk)) kind id v (nI clk) else -10
noncomputable def an_pl (f : Nat → Int32) (clk : Nat) (pw lf kind id v : Int32) : Int32 := if an_no f clk pw kind id v = 0 then (if (pl_w f lf clk (ct_N f (nI clk)) kind id v).2.1 = 1 then 0 else -9) else an_no f clk pw kind id v
noncomputable def nx_pl (f : Nat → Int32) (clk : Nat) (pw lf kind id v : Int32) : wr_T := if an_no f clk pw kind id v = 0 then pl_w f lf clk (ct_N f (nI clk)) kind id v else (f, pw, lf)
noncomputable def an_pu (f : Nat → Int32) (clk : Nat) (pw lf a b key date : Int32) : Int32 := if an_no f clk pw 1 0 date = 0 then (if (pu_w f lf clk (ct_N f (nI clk)) a b key date).2.1 = 1 then nI ((ct_st f (ct_N f (nI clk))).1 + 1) else -9) else an_no f clk pw 1 0 date
noncomputable def nx_pu (f : Nat → Int32) (clk : Nat) (pw lf a b key date : Int32) : wr_T := if an_no f clk pw 1 0 date = 0 then pu_w f lf clk (ct_N f (nI clk)) a b key date else (f, pw, lf)
theorem ct_ru1 (ob : Nat) (S D G : Nat → Int32) (i j v t : Int32) : ct_ru ob S D G 1 i v t = ct_ru ob S D G 1 j v t := by
  by_cases h : v < 0 ∨ 1000000 < v
  · exact (ru1_bad h).symm.trans (ru1_bad h)
  · by_cases h2 : v < t
    · exact (ru1_short h h2).symm.trans (ru1_short h h2)
    · by_cases h3 : 12 ≤ ob
      · exact (ru1_full h h2 h3).symm.trans (ru1_full h h2 h3)
      · exact (ru1_ok h h2 h3).symm.trans (ru1_ok h h2 h3)
theorem ct_vd1 (C : ct_T) (en : Nat) (i j v t : Int32) : ct_vd C en 1 i v t = ct_vd C en 1 j v t := by
  unfold ct_vd ct_vk ct_ruC
  rw [ct_ru1 C.1 C.2.1 C.2.2.1 C.2.2.2.1 i j v t]
theorem ce_vd {C C' : ct_T} (h : ct_eq C C') (ho : C.1 ≤ 12) (en : Nat) (kind id v t : Int32) : ct_vd C en kind id v t = ct_vd C' en kind id v t := by
  unfold ct_vd ct_vk
  rw [ce_ru h ho]
/-- an allowed request: room, kind and rule -/
theorem ct_vd0 {C : ct_T} {en : Nat} {kind id v t : Int32} (h : ct_vd C en kind id v t = 0) : en < 40 ∧ 1 ≤ kind ∧ kind ≤ 6 ∧ ct_ruC C kind id v t = 0 := by
  unfold ct_vd at h
  by_cases q : ct_vk C kind id v t = 0 ∧ 40 ≤ en
  · rw [if_pos q] at h; exact absurd h (by decide)
  · rw [if_neg q] at h
    refine ⟨Nat.lt_of_not_le fun z => q ⟨h, z⟩, ?_⟩
    unfold ct_vk at h
    by_cases w : 1 ≤ kind ∧ kind ≤ 6
    · rw [if_pos w] at h; exact ⟨w.1, w.2, h⟩
    · rw [if_neg w] at h; exact absurd h (by decide)
/-- what a whole record's writing leaves -/
theorem rq_done {f f' : Nat → Int32} {clk n : Nat} {kind id v c0 c1 : Int32} (hc : clk < 2 ^ 31) (h : ct_n f (nI clk) n) (hz : ∀ j, 7 * n ≤ j → j < 280 → f j = 0) (hn : n < 40)
    (hw : ∀ j, j < 280 → f' j = if 7 * n ≤ j ∧ j < 7 * n + 7 then rc_w kind id v c0 c1 (nI clk) (j - 7 * n) else f j)
    (k1 : 1 ≤ kind) (k6 : kind ≤ 6) (hc0 : kind ≠ 1 → c0 = 0 ∧ c1 = 0) (hv : 5 ≤ kind → v = 0) (hi : kind = 1 → id = nI ((ct_st f n).1 + 1)) (hr : ct_ruC (ct_st f n) kind id v (nI clk) = 0) :
    ct_n f' (nI clk) (n + 1) ∧ ct_st f' (n + 1) = ct_ap (ct_st f n) n kind id v ∧ ∀ j, 7 * (n + 1) ≤ j → j < 280 → f' j = 0 := by
  have h0 : ∀ j, j < 7 * n → f' j = f j := fun j hj => by rw [hw j (by omega), if_neg (by omega)]
  have h1 : ∀ j, j < 7 → f' (7 * n + j) = rc_w kind id v c0 c1 (nI clk) j := fun j hj => by rw [hw _ (by omega), if_pos ⟨by omega, by omega⟩, Nat.add_sub_cancel_left]
  have h2 : ∀ j, 7 * n + 7 ≤ j → j < 280 → f' j = 0 := fun j a b => by rw [hw j b, if_neg (by omega)]; exact hz j (by omega) b
  refine ⟨ct_add h hn h0 (rc_ok h (nI_pos' hc) h0 h1 k1 k6 hc0 hv hi hr) h2, ?_, fun j a b => h2 j (by omega) b⟩
  rw [ct_st, ct_st_cg h0 n (Nat.le_refl n)]
  have e0 := h1 0 (by decide)
  rw [Nat.add_zero] at e0
  rw [e0, h1 1 (by decide), h1 2 (by decide)]
  rfl
theorem pl_done {f : Nat → Int32} {lf : Int32} {clk n : Nat} {kind id v : Int32} (hc : clk < 2 ^ 31) (h : ct_n f (nI clk) n) (hz : ∀ j, 7 * n ≤ j → j < 280 → f j = 0) (k1 : kind ≠ 1) (hv : 5 ≤ kind → v = 0) (hr : ct_vd (ct_st f n) n kind id v (nI clk) = 0) (hp : (pl_w f lf clk n kind id v).2.1 = 1) :
    ct_n (pl_w f lf clk n kind id v).1 (nI clk) (n + 1) ∧ ct_st (pl_w f lf clk n kind id v).1 (n + 1) = ct_ap (ct_st f n) n kind id v ∧ ∀ j, 7 * (n + 1) ≤ j → j < 280 → (pl_w f lf clk n kind id v).1 j = 0 := by
  obtain ⟨r1, r2, r3, r4⟩ := ct_vd0 hr
  have h12 := (ct_iv_n n h.2.1).1
  obtain ⟨i, i1, i2, i3⟩ := ct_ru_there (by omega) k1 r4
  refine rq_done (c0 := 0) (c1 := 0) hc h hz r1 (fun j hj => ?_) r2 r3 (fun _ => ⟨rfl, rfl⟩) hv (fun q => absurd q k1) r4
  unfold pl_w at hp ⊢
  by_cases e : kind = 6
  · rw [if_pos e] at hp ⊢
    obtain ⟨p1, p2⟩ := wr_1_on hp
    rw [p2, ct_un (by rw [i3, nI_clamp (by omega)]; omega)]
    exact (wr_n_on 7 p1).2 j
  · rw [if_neg e] at hp ⊢
    exact (wr_n_on 7 hp).2 j
theorem pu_done {f : Nat → Int32} {lf : Int32} {clk n : Nat} {a b key date : Int32} (hc : clk < 2 ^ 31) (h : ct_n f (nI clk) n) (hz : ∀ j, 7 * n ≤ j → j < 280 → f j = 0) (hr : ct_vd (ct_st f n) n 1 0 date (nI clk) = 0) (hp : (pu_w f lf clk n a b key date).2.1 = 1) :
    ct_n (pu_w f lf clk n a b key date).1 (nI clk) (n + 1) ∧ ct_st (pu_w f lf clk n a b key date).1 (n + 1) = ct_ap (ct_st f n) n 1 (nI ((ct_st f n).1 + 1)) date ∧ ∀ j, 7 * (n + 1) ≤ j → j < 280 → (pu_w f lf clk n a b key date).1 j = 0 := by
  rw [ct_vd1 _ _ 0 (nI ((ct_st f n).1 + 1))] at hr
  obtain ⟨r1, r2, r3, r4⟩ := ct_vd0 hr
  refine rq_done (c0 := a ^^^ hf_pad key (nI ((ct_st f n).1 + 1)) 0) (c1 := b ^^^ hf_pad key (nI ((ct_st f n).1 + 1)) 1) hc h hz r1 (fun j hj => ?_) r2 r3 (fun q => absurd rfl q) (fun q => absurd q (by decide)) (fun _ => rfl) r4
  unfold pu_w at hp ⊢
  obtain ⟨p1, p2⟩ := wr_n_on 7 hp
  obtain ⟨p3, p4⟩ := wr_1_on p1
  rw [p2 j]
  by_cases q : 7 * n ≤ j ∧ j < 7 * n + 7
  · rw [if_pos q, if_pos q]
  · rw [if_neg q, if_neg q, p4, ct_un (by omega)]
/-- the draft's words -/
theorem rc_draft (dr : Nat → Int32) (kind id v c0 c1 t : Int32) : ∀ j, j < 7 → (upd (upd (upd (upd (upd (upd (upd dr 0 kind) 1 id) 2 v) 3 c0) 4 c1) 5 t) 6 (hf_leaf (upd (upd (upd (upd (upd (upd dr 0 kind) 1 id) 2 v) 3 c0) 4 c1) 5 t) 0 ||| 1)) j = rc_w kind id v c0 c1 t j := by
  intro j hj
  rcases (by omega : j = 0 ∨ j = 1 ∨ j = 2 ∨ j = 3 ∨ j = 4 ∨ j = 5 ∨ j = 6) with rfl | rfl | rfl | rfl | rfl | rfl | rfl <;> simp [upd, rc_w, hf_leaf, hf_lf]
theorem wr_n_cg {x : wr_T} {a : Nat} {g g' : Nat → Int32} : ∀ k, (∀ j, j < k → g j = g' j) → wr_n x a g k = wr_n x a g' k
  | 0, _ => rfl
  | k + 1, h => by rw [wr_n, wr_n, wr_n_cg k (fun j hj => h j (by omega)), h k (by omega)]
end
