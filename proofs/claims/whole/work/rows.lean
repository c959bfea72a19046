section
-- ===== PART A: goes FIRST, ahead of the names: the tables' words, and 'selects' of the private methods out of them =====
/-- a private method of a class that the tables say can be made, by its rows of tables_1 -/
def lw_okq (q : MethodName × Nat) : Prop := (q.1.cls ≠ "java/lang/invoke/MethodHandle" ∧ q.1.cls ≠ "java/lang/invoke/VarHandle") ∧ Cond.instantiable q.1.cls q.2 ∈ tables_1 ∧ Cond.privateMethod q.1 ∈ tables_1 ∧ Cond.instanceMethod q.1 ∈ tables_1
theorem lw_p0 : lw_okq (⟨"PoolDice", "startAgain", "()V"⟩, 5) := ⟨⟨by decide +kernel, by decide +kernel⟩, List.mem_of_getElem? (i := 11) (by decide +kernel), List.mem_of_getElem? (i := 153) (by decide +kernel), List.mem_of_getElem? (i := 154) (by decide +kernel)⟩
theorem lw_p1 : lw_okq (⟨"PoolDice$Pool", "grow", "()V"⟩, 2) := ⟨⟨by decide +kernel, by decide +kernel⟩, List.mem_of_getElem? (i := 26) (by decide +kernel), List.mem_of_getElem? (i := 179) (by decide +kernel), List.mem_of_getElem? (i := 180) (by decide +kernel)⟩
theorem lw_p2 : lw_okq (⟨"PoolDice$Digest", "digest", "([II)V"⟩, 3) := ⟨⟨by decide +kernel, by decide +kernel⟩, List.mem_of_getElem? (i := 43) (by decide +kernel), List.mem_of_getElem? (i := 214) (by decide +kernel), List.mem_of_getElem? (i := 215) (by decide +kernel)⟩
theorem lw_p3 : lw_okq (⟨"PoolDice$Digest", "takeWords", "([IIII)V"⟩, 3) := ⟨⟨by decide +kernel, by decide +kernel⟩, List.mem_of_getElem? (i := 43) (by decide +kernel), List.mem_of_getElem? (i := 219) (by decide +kernel), List.mem_of_getElem? (i := 220) (by decide +kernel)⟩
theorem lw_p4 : lw_okq (⟨"PoolDice$Digest", "spreadWords", "()V"⟩, 3) := ⟨⟨by decide +kernel, by decide +kernel⟩, List.mem_of_getElem? (i := 43) (by decide +kernel), List.mem_of_getElem? (i := 227) (by decide +kernel), List.mem_of_getElem? (i := 228) (by decide +kernel)⟩
theorem lw_p5 : lw_okq (⟨"PoolDice$Digest", "mixWords", "()V"⟩, 3) := ⟨⟨by decide +kernel, by decide +kernel⟩, List.mem_of_getElem? (i := 43) (by decide +kernel), List.mem_of_getElem? (i := 234) (by decide +kernel), List.mem_of_getElem? (i := 235) (by decide +kernel)⟩
theorem lw_p6 : lw_okq (⟨"PoolDice$Digest", "handOut", "([II)V"⟩, 3) := ⟨⟨by decide +kernel, by decide +kernel⟩, List.mem_of_getElem? (i := 43) (by decide +kernel), List.mem_of_getElem? (i := 240) (by decide +kernel), List.mem_of_getElem? (i := 241) (by decide +kernel)⟩
theorem lw_p7 : lw_okq (⟨"PoolDice$Generator", "reseed", "(I)V"⟩, 10) := ⟨⟨by decide +kernel, by decide +kernel⟩, List.mem_of_getElem? (i := 19) (by decide +kernel), List.mem_of_getElem? (i := 244) (by decide +kernel), List.mem_of_getElem? (i := 245) (by decide +kernel)⟩
theorem lw_p8 : lw_okq (⟨"PoolDice$Generator", "countOn", "()V"⟩, 10) := ⟨⟨by decide +kernel, by decide +kernel⟩, List.mem_of_getElem? (i := 19) (by decide +kernel), List.mem_of_getElem? (i := 249) (by decide +kernel), List.mem_of_getElem? (i := 250) (by decide +kernel)⟩
theorem lw_p9 : lw_okq (⟨"PoolDice$Cipher", "makeTurnedWord", "(II)V"⟩, 3) := ⟨⟨by decide +kernel, by decide +kernel⟩, List.mem_of_getElem? (i := 61) (by decide +kernel), List.mem_of_getElem? (i := 266) (by decide +kernel), List.mem_of_getElem? (i := 267) (by decide +kernel)⟩
theorem lw_p10 : lw_okq (⟨"PoolDice$Cipher", "addRoundKey", "(I)V"⟩, 3) := ⟨⟨by decide +kernel, by decide +kernel⟩, List.mem_of_getElem? (i := 61) (by decide +kernel), List.mem_of_getElem? (i := 279) (by decide +kernel), List.mem_of_getElem? (i := 280) (by decide +kernel)⟩
theorem lw_p11 : lw_okq (⟨"PoolDice$Cipher", "substituteAndMove", "()V"⟩, 3) := ⟨⟨by decide +kernel, by decide +kernel⟩, List.mem_of_getElem? (i := 61) (by decide +kernel), List.mem_of_getElem? (i := 283) (by decide +kernel), List.mem_of_getElem? (i := 284) (by decide +kernel)⟩
theorem lw_p12 : lw_okq (⟨"PoolDice$Cipher", "mixColumns", "()V"⟩, 3) := ⟨⟨by decide +kernel, by decide +kernel⟩, List.mem_of_getElem? (i := 61) (by decide +kernel), List.mem_of_getElem? (i := 287) (by decide +kernel), List.mem_of_getElem? (i := 288) (by decide +kernel)⟩
theorem lw_p13 : lw_okq (⟨"PoolDice", "saveNewSeed", "()I"⟩, 5) := ⟨⟨by decide +kernel, by decide +kernel⟩, List.mem_of_getElem? (i := 11) (by decide +kernel), List.mem_of_getElem? (i := 302) (by decide +kernel), List.mem_of_getElem? (i := 303) (by decide +kernel)⟩
theorem lw_p14 : lw_okq (⟨"PoolDice$Disk", "write", "(II)Z"⟩, 3) := ⟨⟨by decide +kernel, by decide +kernel⟩, List.mem_of_getElem? (i := 114) (by decide +kernel), List.mem_of_getElem? (i := 310) (by decide +kernel), List.mem_of_getElem? (i := 311) (by decide +kernel)⟩
theorem lw_p15 : lw_okq (⟨"PoolDice", "byteOfPool", "(II)I"⟩, 5) := ⟨⟨by decide +kernel, by decide +kernel⟩, List.mem_of_getElem? (i := 11) (by decide +kernel), List.mem_of_getElem? (i := 334) (by decide +kernel), List.mem_of_getElem? (i := 335) (by decide +kernel)⟩
def lw_privs_1 : List (MethodName × Nat) := [(⟨"PoolDice", "startAgain", "()V"⟩, 5), (⟨"PoolDice$Pool", "grow", "()V"⟩, 2), (⟨"PoolDice$Digest", "digest", "([II)V"⟩, 3), (⟨"PoolDice$Digest", "takeWords", "([IIII)V"⟩, 3), (⟨"PoolDice$Digest", "spreadWords", "()V"⟩, 3), (⟨"PoolDice$Digest", "mixWords", "()V"⟩, 3), (⟨"PoolDice$Digest", "handOut", "([II)V"⟩, 3), (⟨"PoolDice$Generator", "reseed", "(I)V"⟩, 10), (⟨"PoolDice$Generator", "countOn", "()V"⟩, 10), (⟨"PoolDice$Cipher", "makeTurnedWord", "(II)V"⟩, 3), (⟨"PoolDice$Cipher", "addRoundKey", "(I)V"⟩, 3), (⟨"PoolDice$Cipher", "substituteAndMove", "()V"⟩, 3), (⟨"PoolDice$Cipher", "mixColumns", "()V"⟩, 3), (⟨"PoolDice", "saveNewSeed", "()I"⟩, 5), (⟨"PoolDice$Disk", "write", "(II)Z"⟩, 3), (⟨"PoolDice", "byteOfPool", "(II)I"⟩, 5)]
theorem lw_r1 : ∀ q ∈ lw_privs_1, lw_okq q := List.forall_mem_cons.mpr ⟨lw_p0, List.forall_mem_cons.mpr ⟨lw_p1, List.forall_mem_cons.mpr ⟨lw_p2, List.forall_mem_cons.mpr ⟨lw_p3, List.forall_mem_cons.mpr ⟨lw_p4, List.forall_mem_cons.mpr ⟨lw_p5, List.forall_mem_cons.mpr ⟨lw_p6, List.forall_mem_cons.mpr ⟨lw_p7, List.forall_mem_cons.mpr ⟨lw_p8, List.forall_mem_cons.mpr ⟨lw_p9, List.forall_mem_cons.mpr ⟨lw_p10, List.forall_mem_cons.mpr ⟨lw_p11, List.forall_mem_cons.mpr ⟨lw_p12, List.forall_mem_cons.mpr ⟨lw_p13, List.forall_mem_cons.mpr ⟨lw_p14, List.forall_mem_cons.mpr ⟨lw_p15, fun _ h => absurd h List.not_mem_nil⟩⟩⟩⟩⟩⟩⟩⟩⟩⟩⟩⟩⟩⟩⟩⟩
theorem lw_p16 : lw_okq (⟨"PoolDice", "sizeOfPool", "(I)I"⟩, 5) := ⟨⟨by decide +kernel, by decide +kernel⟩, List.mem_of_getElem? (i := 11) (by decide +kernel), List.mem_of_getElem? (i := 350) (by decide +kernel), List.mem_of_getElem? (i := 351) (by decide +kernel)⟩
theorem lw_p17 : lw_okq (⟨"PoolDiceModel", "first", "()V"⟩, 25) := ⟨⟨by decide +kernel, by decide +kernel⟩, List.mem_of_getElem? (i := 354) (by decide +kernel), List.mem_of_getElem? (i := 441) (by decide +kernel), List.mem_of_getElem? (i := 442) (by decide +kernel)⟩
theorem lw_p18 : lw_okq (⟨"PoolDiceModel", "draws", "()V"⟩, 25) := ⟨⟨by decide +kernel, by decide +kernel⟩, List.mem_of_getElem? (i := 354) (by decide +kernel), List.mem_of_getElem? (i := 461) (by decide +kernel), List.mem_of_getElem? (i := 462) (by decide +kernel)⟩
theorem lw_p19 : lw_okq (⟨"PoolDiceModel", "ofPool", "(I)V"⟩, 25) := ⟨⟨by decide +kernel, by decide +kernel⟩, List.mem_of_getElem? (i := 354) (by decide +kernel), List.mem_of_getElem? (i := 465) (by decide +kernel), List.mem_of_getElem? (i := 466) (by decide +kernel)⟩
theorem lw_p20 : lw_okq (⟨"PoolDiceModel", "twice", "()V"⟩, 25) := ⟨⟨by decide +kernel, by decide +kernel⟩, List.mem_of_getElem? (i := 354) (by decide +kernel), List.mem_of_getElem? (i := 469) (by decide +kernel), List.mem_of_getElem? (i := 470) (by decide +kernel)⟩
theorem lw_p21 : lw_okq (⟨"PoolDiceModel", "digests", "()V"⟩, 25) := ⟨⟨by decide +kernel, by decide +kernel⟩, List.mem_of_getElem? (i := 354) (by decide +kernel), List.mem_of_getElem? (i := 473) (by decide +kernel), List.mem_of_getElem? (i := 474) (by decide +kernel)⟩
theorem lw_p22 : lw_okq (⟨"PoolDiceModel", "round", "(II)V"⟩, 25) := ⟨⟨by decide +kernel, by decide +kernel⟩, List.mem_of_getElem? (i := 354) (by decide +kernel), List.mem_of_getElem? (i := 488) (by decide +kernel), List.mem_of_getElem? (i := 489) (by decide +kernel)⟩
theorem lw_p23 : lw_okq (⟨"PoolDiceModel", "padded", "(II)I"⟩, 25) := ⟨⟨by decide +kernel, by decide +kernel⟩, List.mem_of_getElem? (i := 354) (by decide +kernel), List.mem_of_getElem? (i := 492) (by decide +kernel), List.mem_of_getElem? (i := 493) (by decide +kernel)⟩
theorem lw_p24 : lw_okq (⟨"PoolDiceModel", "reseeds", "(I)V"⟩, 25) := ⟨⟨by decide +kernel, by decide +kernel⟩, List.mem_of_getElem? (i := 354) (by decide +kernel), List.mem_of_getElem? (i := 566) (by decide +kernel), List.mem_of_getElem? (i := 567) (by decide +kernel)⟩
theorem lw_p25 : lw_okq (⟨"PoolDiceModel", "counts", "()V"⟩, 25) := ⟨⟨by decide +kernel, by decide +kernel⟩, List.mem_of_getElem? (i := 354) (by decide +kernel), List.mem_of_getElem? (i := 570) (by decide +kernel), List.mem_of_getElem? (i := 571) (by decide +kernel)⟩
theorem lw_p26 : lw_okq (⟨"PoolDiceModel", "isSeeded", "()Z"⟩, 25) := ⟨⟨by decide +kernel, by decide +kernel⟩, List.mem_of_getElem? (i := 354) (by decide +kernel), List.mem_of_getElem? (i := 574) (by decide +kernel), List.mem_of_getElem? (i := 575) (by decide +kernel)⟩
theorem lw_p27 : lw_okq (⟨"PoolDiceModel", "generatesAll", "(I)V"⟩, 25) := ⟨⟨by decide +kernel, by decide +kernel⟩, List.mem_of_getElem? (i := 354) (by decide +kernel), List.mem_of_getElem? (i := 578) (by decide +kernel), List.mem_of_getElem? (i := 579) (by decide +kernel)⟩
theorem lw_p28 : lw_okq (⟨"PoolDiceModel", "generates", "(I)V"⟩, 25) := ⟨⟨by decide +kernel, by decide +kernel⟩, List.mem_of_getElem? (i := 354) (by decide +kernel), List.mem_of_getElem? (i := 582) (by decide +kernel), List.mem_of_getElem? (i := 583) (by decide +kernel)⟩
theorem lw_p29 : lw_okq (⟨"PoolDiceModel", "schedules", "()V"⟩, 25) := ⟨⟨by decide +kernel, by decide +kernel⟩, List.mem_of_getElem? (i := 354) (by decide +kernel), List.mem_of_getElem? (i := 586) (by decide +kernel), List.mem_of_getElem? (i := 587) (by decide +kernel)⟩
theorem lw_p30 : lw_okq (⟨"PoolDiceModel", "s", "(I)I"⟩, 25) := ⟨⟨by decide +kernel, by decide +kernel⟩, List.mem_of_getElem? (i := 354) (by decide +kernel), List.mem_of_getElem? (i := 590) (by decide +kernel), List.mem_of_getElem? (i := 591) (by decide +kernel)⟩
theorem lw_p31 : lw_okq (⟨"PoolDiceModel", "saves", "()I"⟩, 25) := ⟨⟨by decide +kernel, by decide +kernel⟩, List.mem_of_getElem? (i := 354) (by decide +kernel), List.mem_of_getElem? (i := 608) (by decide +kernel), List.mem_of_getElem? (i := 609) (by decide +kernel)⟩
def lw_privs_2 : List (MethodName × Nat) := [(⟨"PoolDice", "sizeOfPool", "(I)I"⟩, 5), (⟨"PoolDiceModel", "first", "()V"⟩, 25), (⟨"PoolDiceModel", "draws", "()V"⟩, 25), (⟨"PoolDiceModel", "ofPool", "(I)V"⟩, 25), (⟨"PoolDiceModel", "twice", "()V"⟩, 25), (⟨"PoolDiceModel", "digests", "()V"⟩, 25), (⟨"PoolDiceModel", "round", "(II)V"⟩, 25), (⟨"PoolDiceModel", "padded", "(II)I"⟩, 25), (⟨"PoolDiceModel", "reseeds", "(I)V"⟩, 25), (⟨"PoolDiceModel", "counts", "()V"⟩, 25), (⟨"PoolDiceModel", "isSeeded", "()Z"⟩, 25), (⟨"PoolDiceModel", "generatesAll", "(I)V"⟩, 25), (⟨"PoolDiceModel", "generates", "(I)V"⟩, 25), (⟨"PoolDiceModel", "schedules", "()V"⟩, 25), (⟨"PoolDiceModel", "s", "(I)I"⟩, 25), (⟨"PoolDiceModel", "saves", "()I"⟩, 25)]
theorem lw_r2 : ∀ q ∈ lw_privs_2, lw_okq q := List.forall_mem_cons.mpr ⟨lw_p16, List.forall_mem_cons.mpr ⟨lw_p17, List.forall_mem_cons.mpr ⟨lw_p18, List.forall_mem_cons.mpr ⟨lw_p19, List.forall_mem_cons.mpr ⟨lw_p20, List.forall_mem_cons.mpr ⟨lw_p21, List.forall_mem_cons.mpr ⟨lw_p22, List.forall_mem_cons.mpr ⟨lw_p23, List.forall_mem_cons.mpr ⟨lw_p24, List.forall_mem_cons.mpr ⟨lw_p25, List.forall_mem_cons.mpr ⟨lw_p26, List.forall_mem_cons.mpr ⟨lw_p27, List.forall_mem_cons.mpr ⟨lw_p28, List.forall_mem_cons.mpr ⟨lw_p29, List.forall_mem_cons.mpr ⟨lw_p30, List.forall_mem_cons.mpr ⟨lw_p31, fun _ h => absurd h List.not_mem_nil⟩⟩⟩⟩⟩⟩⟩⟩⟩⟩⟩⟩⟩⟩⟩⟩
theorem lw_p32 : lw_okq (⟨"PoolDiceModel", "writes", "(II)Z"⟩, 25) := ⟨⟨by decide +kernel, by decide +kernel⟩, List.mem_of_getElem? (i := 354) (by decide +kernel), List.mem_of_getElem? (i := 612) (by decide +kernel), List.mem_of_getElem? (i := 613) (by decide +kernel)⟩
def lw_privs_3 : List (MethodName × Nat) := [(⟨"PoolDiceModel", "writes", "(II)Z"⟩, 25)]
theorem lw_r3 : ∀ q ∈ lw_privs_3, lw_okq q := List.forall_mem_cons.mpr ⟨lw_p32, fun _ h => absurd h List.not_mem_nil⟩
def lw_privs : List (MethodName × Nat) := lw_privs_1 ++ (lw_privs_2 ++ (lw_privs_3))
def lw_tbl : List Cond := k2_sels lw_privs ++ tables_1
theorem lw_privs_ok : ∀ q ∈ lw_privs, lw_okq q := by
  show ∀ q ∈ lw_privs_1 ++ (lw_privs_2 ++ (lw_privs_3)), lw_okq q
  exact List.forall_mem_append.mpr ⟨lw_r1, List.forall_mem_append.mpr ⟨lw_r2, lw_r3⟩⟩
end
section
def r_Ci : String := "PoolDice$Cipher"
def r_Dg : String := "PoolDice$Digest"
def r_Dk : String := "PoolDice$Disk"
def r_Ge : String := "PoolDice$Generator"
def r_Po : String := "PoolDice$Pool"
def r_Pd : String := "PoolDice"
def r_Mo : String := "PoolDiceModel"
def r_In : String := "java/lang/Integer"
def r_Sy : String := "java/lang/System"
def r_La : String := "PoolDiceLaw"
def f_Ci : u_T := fun k => match k with
  | 0 => ("PoolDice$Cipher", "roundKeys", "[I", true)
  | 1 => ("PoolDice$Cipher", "state", "[I", true)
  | _ => ("PoolDice$Cipher", "moved", "[I", true)
def t_Ci : Nat → FieldType := fun k => match k with
  | 0 => .array .int
  | 1 => .array .int
  | _ => .array .int
theorem n_Ci : ∀ a, a < 3 → ∀ b, b < 3 → a ≠ b → (f_Ci a).2.1 ≠ (f_Ci b).2.1 := by decide +kernel
theorem t_Ci_ok : ∀ k, k < 3 → parseFieldDescriptor (f_Ci k).2.2.1 = some (t_Ci k) := by decide +kernel
def f_Dg : u_T := fun k => match k with
  | 0 => ("PoolDice$Digest", "hash", "[I", true)
  | 1 => ("PoolDice$Digest", "w", "[I", true)
  | _ => ("PoolDice$Digest", "once", "[I", true)
def t_Dg : Nat → FieldType := fun k => match k with
  | 0 => .array .int
  | 1 => .array .int
  | _ => .array .int
theorem n_Dg : ∀ a, a < 3 → ∀ b, b < 3 → a ≠ b → (f_Dg a).2.1 ≠ (f_Dg b).2.1 := by decide +kernel
theorem t_Dg_ok : ∀ k, k < 3 → parseFieldDescriptor (f_Dg k).2.2.1 = some (t_Dg k) := by decide +kernel
def f_Dk : u_T := fun k => match k with
  | 0 => ("PoolDice$Disk", "bytes", "[I", true)
  | 1 => ("PoolDice$Disk", "writes", "I", false)
  | _ => ("PoolDice$Disk", "tillCrash", "I", false)
def t_Dk : Nat → FieldType := fun k => match k with
  | 0 => .array .int
  | 1 => .int
  | _ => .int
theorem n_Dk : ∀ a, a < 3 → ∀ b, b < 3 → a ≠ b → (f_Dk a).2.1 ≠ (f_Dk b).2.1 := by decide +kernel
theorem t_Dk_ok : ∀ k, k < 3 → parseFieldDescriptor (f_Dk k).2.2.1 = some (t_Dk k) := by decide +kernel
def f_Ge : u_T := fun k => match k with
  | 0 => ("PoolDice$Generator", "key", "[I", true)
  | 1 => ("PoolDice$Generator", "counter", "[I", true)
  | 2 => ("PoolDice$Generator", "pools", "[LPoolDice$Pool;", true)
  | 3 => ("PoolDice$Generator", "reseeds", "I", false)
  | 4 => ("PoolDice$Generator", "clock", "I", false)
  | 5 => ("PoolDice$Generator", "latest", "I", false)
  | 6 => ("PoolDice$Generator", "digest", "LPoolDice$Digest;", true)
  | 7 => ("PoolDice$Generator", "cipher", "LPoolDice$Cipher;", true)
  | 8 => ("PoolDice$Generator", "keyAndRow", "[I", true)
  | _ => ("PoolDice$Generator", "twice", "[I", true)
def t_Ge : Nat → FieldType := fun k => match k with
  | 0 => .array .int
  | 1 => .array .int
  | 2 => .array (.object "PoolDice$Pool")
  | 3 => .int
  | 4 => .int
  | 5 => .int
  | 6 => .object "PoolDice$Digest"
  | 7 => .object "PoolDice$Cipher"
  | 8 => .array .int
  | _ => .array .int
theorem n_Ge : ∀ a, a < 10 → ∀ b, b < 10 → a ≠ b → (f_Ge a).2.1 ≠ (f_Ge b).2.1 := by decide +kernel
theorem t_Ge_ok : ∀ k, k < 10 → parseFieldDescriptor (f_Ge k).2.2.1 = some (t_Ge k) := by decide +kernel
def f_Po : u_T := fun k => match k with
  | 0 => ("PoolDice$Pool", "bytes", "[I", false)
  | _ => ("PoolDice$Pool", "size", "I", false)
def t_Po : Nat → FieldType := fun k => match k with
  | 0 => .array .int
  | _ => .int
theorem n_Po : ∀ a, a < 2 → ∀ b, b < 2 → a ≠ b → (f_Po a).2.1 ≠ (f_Po b).2.1 := by decide +kernel
theorem t_Po_ok : ∀ k, k < 2 → parseFieldDescriptor (f_Po k).2.2.1 = some (t_Po k) := by decide +kernel
def f_Pd : u_T := fun k => match k with
  | 0 => ("PoolDice", "generator", "LPoolDice$Generator;", true)
  | 1 => ("PoolDice", "disk", "LPoolDice$Disk;", true)
  | 2 => ("PoolDice", "given", "[I", true)
  | 3 => ("PoolDice", "givenCount", "I", false)
  | _ => ("PoolDice", "newSeed", "[I", true)
def t_Pd : Nat → FieldType := fun k => match k with
  | 0 => .object "PoolDice$Generator"
  | 1 => .object "PoolDice$Disk"
  | 2 => .array .int
  | 3 => .int
  | _ => .array .int
theorem n_Pd : ∀ a, a < 5 → ∀ b, b < 5 → a ≠ b → (f_Pd a).2.1 ≠ (f_Pd b).2.1 := by decide +kernel
theorem t_Pd_ok : ∀ k, k < 5 → parseFieldDescriptor (f_Pd k).2.2.1 = some (t_Pd k) := by decide +kernel
def f_Mo : u_T := fun k => match k with
  | 0 => ("PoolDiceModel", "code", "I", false)
  | 1 => ("PoolDiceModel", "key", "[I", true)
  | 2 => ("PoolDiceModel", "counter", "[I", true)
  | 3 => ("PoolDiceModel", "reseeds", "I", false)
  | 4 => ("PoolDiceModel", "clock", "I", false)
  | 5 => ("PoolDiceModel", "latest", "I", false)
  | 6 => ("PoolDiceModel", "lengths", "[I", true)
  | 7 => ("PoolDiceModel", "pools", "[I", true)
  | 8 => ("PoolDiceModel", "out", "[I", true)
  | 9 => ("PoolDiceModel", "outs", "I", false)
  | 10 => ("PoolDiceModel", "disk", "[I", true)
  | 11 => ("PoolDiceModel", "told", "I", false)
  | 12 => ("PoolDiceModel", "writes", "I", false)
  | 13 => ("PoolDiceModel", "row", "[I", true)
  | 14 => ("PoolDiceModel", "length", "I", false)
  | 15 => ("PoolDiceModel", "words", "[I", true)
  | 16 => ("PoolDiceModel", "h", "[I", true)
  | 17 => ("PoolDiceModel", "digest", "[I", true)
  | 18 => ("PoolDiceModel", "drawn", "[I", true)
  | 19 => ("PoolDiceModel", "made", "[I", true)
  | 20 => ("PoolDiceModel", "block", "[I", true)
  | 21 => ("PoolDiceModel", "other", "[I", true)
  | 22 => ("PoolDiceModel", "schedule", "[I", true)
  | 23 => ("PoolDiceModel", "turns", "[I", true)
  | _ => ("PoolDiceModel", "ready", "Z", false)
def t_Mo : Nat → FieldType := fun k => match k with
  | 0 => .int
  | 1 => .array .int
  | 2 => .array .int
  | 3 => .int
  | 4 => .int
  | 5 => .int
  | 6 => .array .int
  | 7 => .array .int
  | 8 => .array .int
  | 9 => .int
  | 10 => .array .int
  | 11 => .int
  | 12 => .int
  | 13 => .array .int
  | 14 => .int
  | 15 => .array .int
  | 16 => .array .int
  | 17 => .array .int
  | 18 => .array .int
  | 19 => .array .int
  | 20 => .array .int
  | 21 => .array .int
  | 22 => .array .int
  | 23 => .array .int
  | _ => .boolean
theorem n_Mo : ∀ a, a < 25 → ∀ b, b < 25 → a ≠ b → (f_Mo a).2.1 ≠ (f_Mo b).2.1 := by decide +kernel
theorem t_Mo_ok : ∀ k, k < 25 → parseFieldDescriptor (f_Mo k).2.2.1 = some (t_Mo k) := by decide +kernel
abbrev cl_s : List vw_C := [(r_Ci, f_Ci, 3), (r_Dg, f_Dg, 3), (r_Dk, f_Dk, 3), (r_Ge, f_Ge, 10), (r_Po, f_Po, 2), (r_Pd, f_Pd, 5), (r_Mo, f_Mo, 25)]
abbrev c_Ci_new : ByteArray := prog_2_method_1_code
def y_Ci_new : MethodName := ⟨r_Ci, "<init>", "()V"⟩
abbrev c_Ci_takeKey : ByteArray := prog_2_method_2_code
def y_Ci_takeKey : MethodName := ⟨r_Ci, "takeKey", "([I)V"⟩
abbrev c_Ci_makeTurnedWord : ByteArray := prog_2_method_3_code
def y_Ci_makeTurnedWord : MethodName := ⟨r_Ci, "makeTurnedWord", "(II)V"⟩
abbrev c_Ci_encrypt : ByteArray := prog_2_method_4_code
def y_Ci_encrypt : MethodName := ⟨r_Ci, "encrypt", "([I[II)V"⟩
abbrev c_Ci_addRoundKey : ByteArray := prog_2_method_5_code
def y_Ci_addRoundKey : MethodName := ⟨r_Ci, "addRoundKey", "(I)V"⟩
abbrev c_Ci_substituteAndMove : ByteArray := prog_2_method_6_code
def y_Ci_substituteAndMove : MethodName := ⟨r_Ci, "substituteAndMove", "()V"⟩
abbrev c_Ci_mixColumns : ByteArray := prog_2_method_7_code
def y_Ci_mixColumns : MethodName := ⟨r_Ci, "mixColumns", "()V"⟩
abbrev c_Ci_timesX : ByteArray := prog_2_method_8_code
def y_Ci_timesX : MethodName := ⟨r_Ci, "timesX", "(I)I"⟩
abbrev c_Dg_new : ByteArray := prog_3_method_1_code
def y_Dg_new : MethodName := ⟨r_Dg, "<init>", "()V"⟩
abbrev c_Dg_twice : ByteArray := prog_3_method_2_code
def y_Dg_twice : MethodName := ⟨r_Dg, "twice", "([II[II)V"⟩
abbrev c_Dg_digest : ByteArray := prog_3_method_3_code
def y_Dg_digest : MethodName := ⟨r_Dg, "digest", "([II)V"⟩
abbrev c_Dg_takeWords : ByteArray := prog_3_method_4_code
def y_Dg_takeWords : MethodName := ⟨r_Dg, "takeWords", "([IIII)V"⟩
abbrev c_Dg_filledByte : ByteArray := prog_3_method_5_code
def y_Dg_filledByte : MethodName := ⟨r_Dg, "filledByte", "([IIII)I"⟩
abbrev c_Dg_spreadWords : ByteArray := prog_3_method_6_code
def y_Dg_spreadWords : MethodName := ⟨r_Dg, "spreadWords", "()V"⟩
abbrev c_Dg_mixWords : ByteArray := prog_3_method_7_code
def y_Dg_mixWords : MethodName := ⟨r_Dg, "mixWords", "()V"⟩
abbrev c_Dg_handOut : ByteArray := prog_3_method_8_code
def y_Dg_handOut : MethodName := ⟨r_Dg, "handOut", "([II)V"⟩
abbrev c_Dk_new : ByteArray := prog_4_method_1_code
def y_Dk_new : MethodName := ⟨r_Dk, "<init>", "()V"⟩
abbrev c_Dk_tellCrash : ByteArray := prog_4_method_2_code
def y_Dk_tellCrash : MethodName := ⟨r_Dk, "tellCrash", "(I)V"⟩
abbrev c_Dk_seedPlace : ByteArray := prog_4_method_3_code
def y_Dk_seedPlace : MethodName := ⟨r_Dk, "seedPlace", "()I"⟩
abbrev c_Dk_store : ByteArray := prog_4_method_4_code
def y_Dk_store : MethodName := ⟨r_Dk, "store", "([I)Z"⟩
abbrev c_Dk_write : ByteArray := prog_4_method_5_code
def y_Dk_write : MethodName := ⟨r_Dk, "write", "(II)Z"⟩
abbrev c_Ge_new : ByteArray := prog_5_method_1_code
def y_Ge_new : MethodName := ⟨r_Ge, "<init>", "()V"⟩
abbrev c_Ge_reset : ByteArray := prog_5_method_2_code
def y_Ge_reset : MethodName := ⟨r_Ge, "reset", "()V"⟩
abbrev c_Ge_isSeeded : ByteArray := prog_5_method_3_code
def y_Ge_isSeeded : MethodName := ⟨r_Ge, "isSeeded", "()Z"⟩
abbrev c_Ge_passTime : ByteArray := prog_5_method_4_code
def y_Ge_passTime : MethodName := ⟨r_Ge, "passTime", "(I)I"⟩
abbrev c_Ge_isDrawingDue : ByteArray := prog_5_method_5_code
def y_Ge_isDrawingDue : MethodName := ⟨r_Ge, "isDrawingDue", "()Z"⟩
abbrev c_Ge_draw : ByteArray := prog_5_method_6_code
def y_Ge_draw : MethodName := ⟨r_Ge, "draw", "()V"⟩
abbrev c_Ge_isMultiple : ByteArray := prog_5_method_7_code
def y_Ge_isMultiple : MethodName := ⟨r_Ge, "isMultiple", "(II)Z"⟩
abbrev c_Ge_reseedWith : ByteArray := prog_5_method_8_code
def y_Ge_reseedWith : MethodName := ⟨r_Ge, "reseedWith", "([III)V"⟩
abbrev c_Ge_reseed : ByteArray := prog_5_method_9_code
def y_Ge_reseed : MethodName := ⟨r_Ge, "reseed", "(I)V"⟩
abbrev c_Ge_generate : ByteArray := prog_5_method_10_code
def y_Ge_generate : MethodName := ⟨r_Ge, "generate", "(I[I)V"⟩
abbrev c_Ge_byteOfTwice : ByteArray := prog_5_method_11_code
def y_Ge_byteOfTwice : MethodName := ⟨r_Ge, "byteOfTwice", "(II)I"⟩
abbrev c_Ge_countOn : ByteArray := prog_5_method_12_code
def y_Ge_countOn : MethodName := ⟨r_Ge, "countOn", "()V"⟩
abbrev c_Po_new : ByteArray := prog_6_method_1_code
def y_Po_new : MethodName := ⟨r_Po, "<init>", "()V"⟩
abbrev c_Po_add : ByteArray := prog_6_method_2_code
def y_Po_add : MethodName := ⟨r_Po, "add", "(II)Z"⟩
abbrev c_Po_grow : ByteArray := prog_6_method_3_code
def y_Po_grow : MethodName := ⟨r_Po, "grow", "()V"⟩
abbrev c_Pd_new : ByteArray := prog_1_method_1_code
def y_Pd_new : MethodName := ⟨r_Pd, "<init>", "()V"⟩
abbrev c_Pd_init : ByteArray := prog_1_method_2_code
def y_Pd_init : MethodName := ⟨r_Pd, "init", "()V"⟩
abbrev c_Pd_event : ByteArray := prog_1_method_3_code
def y_Pd_event : MethodName := ⟨r_Pd, "event", "(III)Z"⟩
abbrev c_Pd_tick : ByteArray := prog_1_method_4_code
def y_Pd_tick : MethodName := ⟨r_Pd, "tick", "(I)I"⟩
abbrev c_Pd_request : ByteArray := prog_1_method_5_code
def y_Pd_request : MethodName := ⟨r_Pd, "request", "(I)I"⟩
abbrev c_Pd_out : ByteArray := prog_1_method_6_code
def y_Pd_out : MethodName := ⟨r_Pd, "out", "(I)I"⟩
abbrev c_Pd_save : ByteArray := prog_1_method_7_code
def y_Pd_save : MethodName := ⟨r_Pd, "save", "()I"⟩
abbrev c_Pd_load : ByteArray := prog_1_method_8_code
def y_Pd_load : MethodName := ⟨r_Pd, "load", "()I"⟩
abbrev c_Pd_crash : ByteArray := prog_1_method_9_code
def y_Pd_crash : MethodName := ⟨r_Pd, "crash", "(I)V"⟩
abbrev c_Pd_byteOf : ByteArray := prog_1_method_10_code
def y_Pd_byteOf : MethodName := ⟨r_Pd, "byteOf", "(II)I"⟩
abbrev c_Pd_spoil : ByteArray := prog_1_method_11_code
def y_Pd_spoil : MethodName := ⟨r_Pd, "spoil", "(II)Z"⟩
abbrev c_Pd_about : ByteArray := prog_1_method_12_code
def y_Pd_about : MethodName := ⟨r_Pd, "about", "(I)I"⟩
abbrev c_Pd_startAgain : ByteArray := prog_1_method_13_code
def y_Pd_startAgain : MethodName := ⟨r_Pd, "startAgain", "()V"⟩
abbrev c_Pd_saveNewSeed : ByteArray := prog_1_method_14_code
def y_Pd_saveNewSeed : MethodName := ⟨r_Pd, "saveNewSeed", "()I"⟩
abbrev c_Pd_byteOfPool : ByteArray := prog_1_method_15_code
def y_Pd_byteOfPool : MethodName := ⟨r_Pd, "byteOfPool", "(II)I"⟩
abbrev c_Pd_sizeOfPool : ByteArray := prog_1_method_16_code
def y_Pd_sizeOfPool : MethodName := ⟨r_Pd, "sizeOfPool", "(I)I"⟩
abbrev c_Pd_byteAt : ByteArray := prog_1_method_17_code
def y_Pd_byteAt : MethodName := ⟨r_Pd, "byteAt", "([III)I"⟩
abbrev c_Pd_isByte : ByteArray := prog_1_method_18_code
def y_Pd_isByte : MethodName := ⟨r_Pd, "isByte", "(I)Z"⟩
abbrev c_Pd_isPool : ByteArray := prog_1_method_19_code
def y_Pd_isPool : MethodName := ⟨r_Pd, "isPool", "(I)Z"⟩
abbrev c_Mo_new : ByteArray := prog_8_method_1_code
def y_Mo_new : MethodName := ⟨r_Mo, "<init>", "()V"⟩
abbrev c_Mo_in : ByteArray := prog_8_method_3_code
def y_Mo_in : MethodName := ⟨r_Mo, "in", "(II)Z"⟩
abbrev c_Mo_constant : ByteArray := prog_8_method_4_code
def y_Mo_constant : MethodName := ⟨r_Mo, "constant", "(I)I"⟩
abbrev c_Mo_right : ByteArray := prog_8_method_5_code
def y_Mo_right : MethodName := ⟨r_Mo, "right", "(II)I"⟩
abbrev c_Mo_start : ByteArray := prog_8_method_6_code
def y_Mo_start : MethodName := ⟨r_Mo, "start", "(I)I"⟩
abbrev c_Mo_padded : ByteArray := prog_8_method_7_code
def y_Mo_padded : MethodName := ⟨r_Mo, "padded", "(II)I"⟩
abbrev c_Mo_round : ByteArray := prog_8_method_8_code
def y_Mo_round : MethodName := ⟨r_Mo, "round", "(II)V"⟩
abbrev c_Mo_digests : ByteArray := prog_8_method_9_code
def y_Mo_digests : MethodName := ⟨r_Mo, "digests", "()V"⟩
abbrev c_Mo_twice : ByteArray := prog_8_method_10_code
def y_Mo_twice : MethodName := ⟨r_Mo, "twice", "()V"⟩
abbrev c_Mo_ofPool : ByteArray := prog_8_method_11_code
def y_Mo_ofPool : MethodName := ⟨r_Mo, "ofPool", "(I)V"⟩
abbrev c_Mo_times : ByteArray := prog_8_method_12_code
def y_Mo_times : MethodName := ⟨r_Mo, "times", "(II)I"⟩
abbrev c_Mo_turned : ByteArray := prog_8_method_13_code
def y_Mo_turned : MethodName := ⟨r_Mo, "turned", "(I)I"⟩
abbrev c_Mo_s : ByteArray := prog_8_method_14_code
def y_Mo_s : MethodName := ⟨r_Mo, "s", "(I)I"⟩
abbrev c_Mo_schedules : ByteArray := prog_8_method_15_code
def y_Mo_schedules : MethodName := ⟨r_Mo, "schedules", "()V"⟩
abbrev c_Mo_generates : ByteArray := prog_8_method_16_code
def y_Mo_generates : MethodName := ⟨r_Mo, "generates", "(I)V"⟩
abbrev c_Mo_counts : ByteArray := prog_8_method_17_code
def y_Mo_counts : MethodName := ⟨r_Mo, "counts", "()V"⟩
abbrev c_Mo_isSeeded : ByteArray := prog_8_method_18_code
def y_Mo_isSeeded : MethodName := ⟨r_Mo, "isSeeded", "()Z"⟩
abbrev c_Mo_generatesAll : ByteArray := prog_8_method_19_code
def y_Mo_generatesAll : MethodName := ⟨r_Mo, "generatesAll", "(I)V"⟩
abbrev c_Mo_reseeds : ByteArray := prog_8_method_20_code
def y_Mo_reseeds : MethodName := ⟨r_Mo, "reseeds", "(I)V"⟩
abbrev c_Mo_first : ByteArray := prog_8_method_21_code
def y_Mo_first : MethodName := ⟨r_Mo, "first", "()V"⟩
abbrev c_Mo_init : ByteArray := prog_8_method_22_code
def y_Mo_init : MethodName := ⟨r_Mo, "init", "()V"⟩
abbrev c_Mo_event : ByteArray := prog_8_method_23_code
def y_Mo_event : MethodName := ⟨r_Mo, "event", "(III)Z"⟩
abbrev c_Mo_tick : ByteArray := prog_8_method_24_code
def y_Mo_tick : MethodName := ⟨r_Mo, "tick", "(I)I"⟩
abbrev c_Mo_draws : ByteArray := prog_8_method_25_code
def y_Mo_draws : MethodName := ⟨r_Mo, "draws", "()V"⟩
abbrev c_Mo_request : ByteArray := prog_8_method_26_code
def y_Mo_request : MethodName := ⟨r_Mo, "request", "(I)I"⟩
abbrev c_Mo_out : ByteArray := prog_8_method_27_code
def y_Mo_out : MethodName := ⟨r_Mo, "out", "(I)I"⟩
abbrev c_Mo_writes : ByteArray := prog_8_method_28_code
def y_Mo_writes : MethodName := ⟨r_Mo, "writes", "(II)Z"⟩
abbrev c_Mo_saves : ByteArray := prog_8_method_29_code
def y_Mo_saves : MethodName := ⟨r_Mo, "saves", "()I"⟩
abbrev c_Mo_save : ByteArray := prog_8_method_30_code
def y_Mo_save : MethodName := ⟨r_Mo, "save", "()I"⟩
abbrev c_Mo_load : ByteArray := prog_8_method_31_code
def y_Mo_load : MethodName := ⟨r_Mo, "load", "()I"⟩
abbrev c_Mo_crash : ByteArray := prog_8_method_32_code
def y_Mo_crash : MethodName := ⟨r_Mo, "crash", "(I)V"⟩
abbrev c_Mo_byteOf : ByteArray := prog_8_method_33_code
def y_Mo_byteOf : MethodName := ⟨r_Mo, "byteOf", "(II)I"⟩
abbrev c_Mo_spoil : ByteArray := prog_8_method_34_code
def y_Mo_spoil : MethodName := ⟨r_Mo, "spoil", "(II)Z"⟩
abbrev c_Mo_about : ByteArray := prog_8_method_35_code
def y_Mo_about : MethodName := ⟨r_Mo, "about", "(I)I"⟩
abbrev c_In_rotateRight : ByteArray := prog_9_method_51_code
def y_In_rotateRight : MethodName := ⟨r_In, "rotateRight", "(II)I"⟩
abbrev c_La_law : ByteArray := code
def y_La_law : MethodName := ⟨r_La, "law", "([I)Z"⟩
def gg_L : List Cond := lw_tbl.filter goodWord
theorem gg_a0 {w : Cond} (k : Nat) (h : (k2_sels lw_privs)[k]? = some w) (g : goodWord w = true) : w ∈ gg_L := List.mem_filter.mpr ⟨List.mem_append_left _ (List.mem_of_getElem? h), g⟩
theorem gg_a1 {w : Cond} (k : Nat) (h : tables_1_1[k]? = some w) (g : goodWord w = true) : w ∈ gg_L := List.mem_filter.mpr ⟨List.mem_append_right _ (List.mem_append_left _ (List.mem_of_getElem? h)), g⟩
theorem gg_a2 {w : Cond} (k : Nat) (h : tables_1_2[k]? = some w) (g : goodWord w = true) : w ∈ gg_L := List.mem_filter.mpr ⟨List.mem_append_right _ (List.mem_append_right _ (List.mem_append_left _ (List.mem_of_getElem? h))), g⟩
theorem gg_a3 {w : Cond} (k : Nat) (h : tables_1_3[k]? = some w) (g : goodWord w = true) : w ∈ gg_L := List.mem_filter.mpr ⟨List.mem_append_right _ (List.mem_append_right _ (List.mem_append_right _ (List.mem_of_getElem? h))), g⟩
end
section
theorem wd_0 : Cond.selects r_Pd y_Pd_startAgain y_Pd_startAgain ∈ gg_L := gg_a0 0 rfl rfl
theorem wd_1 : Cond.selects r_Po y_Po_grow y_Po_grow ∈ gg_L := gg_a0 1 rfl rfl
theorem wd_2 : Cond.selects r_Dg y_Dg_digest y_Dg_digest ∈ gg_L := gg_a0 2 rfl rfl
theorem wd_3 : Cond.selects r_Dg y_Dg_takeWords y_Dg_takeWords ∈ gg_L := gg_a0 3 rfl rfl
theorem wd_4 : Cond.selects r_Dg y_Dg_spreadWords y_Dg_spreadWords ∈ gg_L := gg_a0 4 rfl rfl
theorem wd_5 : Cond.selects r_Dg y_Dg_mixWords y_Dg_mixWords ∈ gg_L := gg_a0 5 rfl rfl
theorem wd_6 : Cond.selects r_Dg y_Dg_handOut y_Dg_handOut ∈ gg_L := gg_a0 6 rfl rfl
theorem wd_7 : Cond.selects r_Ge y_Ge_reseed y_Ge_reseed ∈ gg_L := gg_a0 7 rfl rfl
theorem wd_8 : Cond.selects r_Ge y_Ge_countOn y_Ge_countOn ∈ gg_L := gg_a0 8 rfl rfl
theorem wd_9 : Cond.selects r_Ci y_Ci_makeTurnedWord y_Ci_makeTurnedWord ∈ gg_L := gg_a0 9 rfl rfl
theorem wd_10 : Cond.selects r_Ci y_Ci_addRoundKey y_Ci_addRoundKey ∈ gg_L := gg_a0 10 rfl rfl
theorem wd_11 : Cond.selects r_Ci y_Ci_substituteAndMove y_Ci_substituteAndMove ∈ gg_L := gg_a0 11 rfl rfl
theorem wd_12 : Cond.selects r_Ci y_Ci_mixColumns y_Ci_mixColumns ∈ gg_L := gg_a0 12 rfl rfl
theorem wd_13 : Cond.selects r_Pd y_Pd_saveNewSeed y_Pd_saveNewSeed ∈ gg_L := gg_a0 13 rfl rfl
theorem wd_14 : Cond.selects r_Dk y_Dk_write y_Dk_write ∈ gg_L := gg_a0 14 rfl rfl
theorem wd_15 : Cond.selects r_Pd y_Pd_byteOfPool y_Pd_byteOfPool ∈ gg_L := gg_a0 15 rfl rfl
theorem wd_16 : Cond.selects r_Pd y_Pd_sizeOfPool y_Pd_sizeOfPool ∈ gg_L := gg_a0 16 rfl rfl
theorem wd_17 : Cond.selects r_Mo y_Mo_first y_Mo_first ∈ gg_L := gg_a0 17 rfl rfl
theorem wd_18 : Cond.selects r_Mo y_Mo_draws y_Mo_draws ∈ gg_L := gg_a0 18 rfl rfl
theorem wd_19 : Cond.selects r_Mo y_Mo_ofPool y_Mo_ofPool ∈ gg_L := gg_a0 19 rfl rfl
theorem wd_20 : Cond.selects r_Mo y_Mo_twice y_Mo_twice ∈ gg_L := gg_a0 20 rfl rfl
theorem wd_21 : Cond.selects r_Mo y_Mo_digests y_Mo_digests ∈ gg_L := gg_a0 21 rfl rfl
theorem wd_22 : Cond.selects r_Mo y_Mo_round y_Mo_round ∈ gg_L := gg_a0 22 rfl rfl
theorem wd_23 : Cond.selects r_Mo y_Mo_padded y_Mo_padded ∈ gg_L := gg_a0 23 rfl rfl
theorem wd_24 : Cond.selects r_Mo y_Mo_reseeds y_Mo_reseeds ∈ gg_L := gg_a0 24 rfl rfl
theorem wd_25 : Cond.selects r_Mo y_Mo_counts y_Mo_counts ∈ gg_L := gg_a0 25 rfl rfl
theorem wd_26 : Cond.selects r_Mo y_Mo_isSeeded y_Mo_isSeeded ∈ gg_L := gg_a0 26 rfl rfl
theorem wd_27 : Cond.selects r_Mo y_Mo_generatesAll y_Mo_generatesAll ∈ gg_L := gg_a0 27 rfl rfl
theorem wd_28 : Cond.selects r_Mo y_Mo_generates y_Mo_generates ∈ gg_L := gg_a0 28 rfl rfl
theorem wd_29 : Cond.selects r_Mo y_Mo_schedules y_Mo_schedules ∈ gg_L := gg_a0 29 rfl rfl
theorem wd_30 : Cond.selects r_Mo y_Mo_s y_Mo_s ∈ gg_L := gg_a0 30 rfl rfl
theorem wd_31 : Cond.selects r_Mo y_Mo_saves y_Mo_saves ∈ gg_L := gg_a0 31 rfl rfl
theorem wd_32 : Cond.selects r_Mo y_Mo_writes y_Mo_writes ∈ gg_L := gg_a0 32 rfl rfl
theorem wd_33 : Cond.initialized r_La ∈ gg_L := gg_a1 0 rfl rfl
theorem wd_34 : Cond.initialized r_Pd ∈ gg_L := gg_a1 1 rfl rfl
theorem wd_35 : Cond.initialized r_Ge ∈ gg_L := gg_a1 2 rfl rfl
theorem wd_36 : Cond.initialized r_Po ∈ gg_L := gg_a1 3 rfl rfl
theorem wd_37 : Cond.initialized r_Dg ∈ gg_L := gg_a1 4 rfl rfl
theorem wd_38 : Cond.initialized r_Ci ∈ gg_L := gg_a1 5 rfl rfl
theorem wd_39 : Cond.initialized r_Dk ∈ gg_L := gg_a1 6 rfl rfl
theorem wd_40 : Cond.initialized r_Mo ∈ gg_L := gg_a1 7 rfl rfl
theorem wd_41 : Cond.initialized r_Sy ∈ gg_L := gg_a1 8 rfl rfl
theorem wd_42 : Cond.initialized r_In ∈ gg_L := gg_a1 9 rfl rfl
theorem wd_43 : Cond.classLink r_La 7 r_Pd ∈ gg_L := gg_a1 10 rfl rfl
theorem wd_44 : Cond.instantiable r_Pd 5 ∈ gg_L := gg_a1 11 rfl rfl
theorem wd_45 : Cond.methodLink r_La 9 y_Pd_new ∈ gg_L := gg_a1 12 rfl rfl
theorem wd_46 : Cond.instanceMethod y_Pd_new ∈ gg_L := gg_a1 13 rfl rfl
theorem wd_47 : Cond.code y_Pd_new c_Pd_new 1 none ∈ gg_L := gg_a1 14 rfl rfl
theorem wd_48 : Cond.methodLink r_Pd 1 objectInit ∈ gg_L := gg_a1 15 rfl rfl
theorem wd_49 : Cond.instanceMethod objectInit ∈ gg_L := gg_a1 16 rfl rfl
theorem wd_50 : Cond.code objectInit ⟨#[0xb1]⟩ 1 none ∈ gg_L := gg_a1 17 rfl rfl
theorem wd_51 : Cond.classLink r_Pd 7 r_Ge ∈ gg_L := gg_a1 18 rfl rfl
theorem wd_52 : Cond.instantiable r_Ge 10 ∈ gg_L := gg_a1 19 rfl rfl
theorem wd_53 : Cond.methodLink r_Pd 9 y_Ge_new ∈ gg_L := gg_a1 20 rfl rfl
theorem wd_54 : Cond.instanceMethod y_Ge_new ∈ gg_L := gg_a1 21 rfl rfl
theorem wd_55 : Cond.code y_Ge_new c_Ge_new 2 none ∈ gg_L := gg_a1 22 rfl rfl
theorem wd_56 : Cond.methodLink r_Ge 3 objectInit ∈ gg_L := gg_a1 23 rfl rfl
theorem wd_57 : Cond.classLink r_Ge 20 r_Po ∈ gg_L := gg_a1 24 rfl rfl
theorem wd_59 : Cond.instantiable r_Po 2 ∈ gg_L := gg_a1 26 rfl rfl
theorem wd_60 : Cond.methodLink r_Ge 26 y_Po_new ∈ gg_L := gg_a1 27 rfl rfl
theorem wd_61 : Cond.instanceMethod y_Po_new ∈ gg_L := gg_a1 28 rfl rfl
theorem wd_62 : Cond.code y_Po_new c_Po_new 1 none ∈ gg_L := gg_a1 29 rfl rfl
theorem wd_63 : Cond.methodLink r_Po 3 objectInit ∈ gg_L := gg_a1 30 rfl rfl
theorem wd_64 : Cond.fieldLink r_Po 9 "PoolDice$Pool" "bytes" "[I" ∈ gg_L := gg_a1 31 rfl rfl
theorem wd_65 : Cond.fieldLink r_Ge 65 "PoolDice$Pool" "bytes" "[I" ∈ gg_L := gg_a1 32 rfl rfl
theorem wd_66 : Cond.fieldLink r_Po 13 "PoolDice$Pool" "size" "I" ∈ gg_L := gg_a1 33 rfl rfl
theorem wd_67 : Cond.fieldLink r_Ge 55 "PoolDice$Pool" "size" "I" ∈ gg_L := gg_a1 34 rfl rfl
theorem wd_68 : Cond.fieldLink r_Pd 134 "PoolDice$Pool" "size" "I" ∈ gg_L := gg_a1 35 rfl rfl
theorem wd_69 : Cond.lays "PoolDice$Pool" "PoolDice$Pool" "bytes" "[I" ∈ gg_L := gg_a1 36 rfl rfl
theorem wd_71 : Cond.lays "PoolDice$Pool" "PoolDice$Pool" "size" "I" ∈ gg_L := gg_a1 38 rfl rfl
theorem wd_74 : Cond.arrayClass .int ∈ gg_L := gg_a1 41 rfl rfl
theorem wd_75 : Cond.classLink r_Ge 37 r_Dg ∈ gg_L := gg_a1 42 rfl rfl
theorem wd_76 : Cond.instantiable r_Dg 3 ∈ gg_L := gg_a1 43 rfl rfl
theorem wd_77 : Cond.methodLink r_Ge 39 y_Dg_new ∈ gg_L := gg_a1 44 rfl rfl
theorem wd_78 : Cond.instanceMethod y_Dg_new ∈ gg_L := gg_a1 45 rfl rfl
theorem wd_79 : Cond.code y_Dg_new c_Dg_new 1 none ∈ gg_L := gg_a1 46 rfl rfl
theorem wd_80 : Cond.methodLink r_Dg 1 objectInit ∈ gg_L := gg_a1 47 rfl rfl
theorem wd_81 : Cond.fieldLink r_Dg 7 "PoolDice$Digest" "START" "[I" ∈ gg_L := gg_a1 48 rfl rfl
theorem wd_83 : Cond.fieldLink r_Dg 13 "PoolDice$Digest" "hash" "[I" ∈ gg_L := gg_a1 50 rfl rfl
theorem wd_84 : Cond.fieldLink r_Dg 16 "PoolDice$Digest" "w" "[I" ∈ gg_L := gg_a1 51 rfl rfl
theorem wd_85 : Cond.fieldLink r_Dg 19 "PoolDice$Digest" "once" "[I" ∈ gg_L := gg_a1 52 rfl rfl
theorem wd_86 : Cond.laysFinal "PoolDice$Digest" "PoolDice$Digest" "hash" "[I" ∈ gg_L := gg_a1 53 rfl rfl
theorem wd_88 : Cond.laysFinal "PoolDice$Digest" "PoolDice$Digest" "w" "[I" ∈ gg_L := gg_a1 55 rfl rfl
theorem wd_90 : Cond.laysFinal "PoolDice$Digest" "PoolDice$Digest" "once" "[I" ∈ gg_L := gg_a1 57 rfl rfl
theorem wd_93 : Cond.classLink r_Ge 9 r_Ci ∈ gg_L := gg_a1 60 rfl rfl
theorem wd_94 : Cond.instantiable r_Ci 3 ∈ gg_L := gg_a1 61 rfl rfl
theorem wd_95 : Cond.methodLink r_Ge 44 y_Ci_new ∈ gg_L := gg_a1 62 rfl rfl
theorem wd_96 : Cond.instanceMethod y_Ci_new ∈ gg_L := gg_a1 63 rfl rfl
theorem wd_97 : Cond.code y_Ci_new c_Ci_new 1 none ∈ gg_L := gg_a1 64 rfl rfl
theorem wd_98 : Cond.methodLink r_Ci 1 objectInit ∈ gg_L := gg_a1 65 rfl rfl
theorem wd_99 : Cond.fieldLink r_Ci 9 "PoolDice$Cipher" "roundKeys" "[I" ∈ gg_L := gg_a1 66 rfl rfl
theorem wd_100 : Cond.fieldLink r_Ci 13 "PoolDice$Cipher" "state" "[I" ∈ gg_L := gg_a1 67 rfl rfl
theorem wd_101 : Cond.fieldLink r_Ci 16 "PoolDice$Cipher" "moved" "[I" ∈ gg_L := gg_a1 68 rfl rfl
theorem wd_102 : Cond.laysFinal "PoolDice$Cipher" "PoolDice$Cipher" "roundKeys" "[I" ∈ gg_L := gg_a1 69 rfl rfl
theorem wd_104 : Cond.laysFinal "PoolDice$Cipher" "PoolDice$Cipher" "state" "[I" ∈ gg_L := gg_a1 71 rfl rfl
theorem wd_106 : Cond.laysFinal "PoolDice$Cipher" "PoolDice$Cipher" "moved" "[I" ∈ gg_L := gg_a1 73 rfl rfl
theorem wd_109 : Cond.fieldLink r_Ge 11 "PoolDice$Generator" "key" "[I" ∈ gg_L := gg_a1 76 rfl rfl
theorem wd_110 : Cond.fieldLink r_Pd 94 "PoolDice$Generator" "key" "[I" ∈ gg_L := gg_a1 77 rfl rfl
theorem wd_111 : Cond.fieldLink r_Ge 17 "PoolDice$Generator" "counter" "[I" ∈ gg_L := gg_a1 78 rfl rfl
theorem wd_112 : Cond.fieldLink r_Pd 97 "PoolDice$Generator" "counter" "[I" ∈ gg_L := gg_a1 79 rfl rfl
theorem wd_113 : Cond.fieldLink r_Ge 22 "PoolDice$Generator" "pools" "[LPoolDice$Pool;" ∈ gg_L := gg_a1 80 rfl rfl
theorem wd_114 : Cond.fieldLink r_Pd 48 "PoolDice$Generator" "pools" "[LPoolDice$Pool;" ∈ gg_L := gg_a1 81 rfl rfl
theorem wd_115 : Cond.fieldLink r_Ge 27 "PoolDice$Generator" "reseeds" "I" ∈ gg_L := gg_a1 82 rfl rfl
theorem wd_116 : Cond.fieldLink r_Pd 104 "PoolDice$Generator" "reseeds" "I" ∈ gg_L := gg_a1 83 rfl rfl
theorem wd_117 : Cond.fieldLink r_Ge 31 "PoolDice$Generator" "clock" "I" ∈ gg_L := gg_a1 84 rfl rfl
theorem wd_118 : Cond.fieldLink r_Pd 107 "PoolDice$Generator" "clock" "I" ∈ gg_L := gg_a1 85 rfl rfl
theorem wd_119 : Cond.fieldLink r_Ge 34 "PoolDice$Generator" "latest" "I" ∈ gg_L := gg_a1 86 rfl rfl
theorem wd_120 : Cond.fieldLink r_Pd 110 "PoolDice$Generator" "latest" "I" ∈ gg_L := gg_a1 87 rfl rfl
theorem wd_121 : Cond.fieldLink r_Ge 40 "PoolDice$Generator" "digest" "LPoolDice$Digest;" ∈ gg_L := gg_a1 88 rfl rfl
theorem wd_122 : Cond.fieldLink r_Ge 45 "PoolDice$Generator" "cipher" "LPoolDice$Cipher;" ∈ gg_L := gg_a1 89 rfl rfl
theorem wd_123 : Cond.fieldLink r_Ge 49 "PoolDice$Generator" "keyAndRow" "[I" ∈ gg_L := gg_a1 90 rfl rfl
theorem wd_124 : Cond.fieldLink r_Ge 52 "PoolDice$Generator" "twice" "[I" ∈ gg_L := gg_a1 91 rfl rfl
theorem wd_125 : Cond.laysFinal "PoolDice$Generator" "PoolDice$Generator" "key" "[I" ∈ gg_L := gg_a1 92 rfl rfl
theorem wd_127 : Cond.laysFinal "PoolDice$Generator" "PoolDice$Generator" "counter" "[I" ∈ gg_L := gg_a1 94 rfl rfl
theorem wd_129 : Cond.laysFinal "PoolDice$Generator" "PoolDice$Generator" "pools" "[LPoolDice$Pool;" ∈ gg_L := gg_a1 96 rfl rfl
theorem wd_131 : Cond.lays "PoolDice$Generator" "PoolDice$Generator" "reseeds" "I" ∈ gg_L := gg_a1 98 rfl rfl
theorem wd_133 : Cond.lays "PoolDice$Generator" "PoolDice$Generator" "clock" "I" ∈ gg_L := gg_a1 100 rfl rfl
theorem wd_135 : Cond.lays "PoolDice$Generator" "PoolDice$Generator" "latest" "I" ∈ gg_L := gg_a1 102 rfl rfl
theorem wd_137 : Cond.laysFinal "PoolDice$Generator" "PoolDice$Generator" "digest" "LPoolDice$Digest;" ∈ gg_L := gg_a1 104 rfl rfl
theorem wd_139 : Cond.laysFinal "PoolDice$Generator" "PoolDice$Generator" "cipher" "LPoolDice$Cipher;" ∈ gg_L := gg_a1 106 rfl rfl
theorem wd_141 : Cond.laysFinal "PoolDice$Generator" "PoolDice$Generator" "keyAndRow" "[I" ∈ gg_L := gg_a1 108 rfl rfl
theorem wd_143 : Cond.laysFinal "PoolDice$Generator" "PoolDice$Generator" "twice" "[I" ∈ gg_L := gg_a1 110 rfl rfl
theorem wd_146 : Cond.classLink r_Pd 16 r_Dk ∈ gg_L := gg_a1 113 rfl rfl
theorem wd_147 : Cond.instantiable r_Dk 3 ∈ gg_L := gg_a1 114 rfl rfl
theorem wd_148 : Cond.methodLink r_Pd 18 y_Dk_new ∈ gg_L := gg_a1 115 rfl rfl
theorem wd_149 : Cond.instanceMethod y_Dk_new ∈ gg_L := gg_a1 116 rfl rfl
theorem wd_150 : Cond.code y_Dk_new c_Dk_new 1 none ∈ gg_L := gg_a1 117 rfl rfl
theorem wd_151 : Cond.methodLink r_Dk 3 objectInit ∈ gg_L := gg_a1 118 rfl rfl
theorem wd_152 : Cond.fieldLink r_Dk 9 "PoolDice$Disk" "bytes" "[I" ∈ gg_L := gg_a1 119 rfl rfl
theorem wd_153 : Cond.fieldLink r_Pd 87 "PoolDice$Disk" "bytes" "[I" ∈ gg_L := gg_a1 120 rfl rfl
theorem wd_154 : Cond.fieldLink r_Dk 15 "PoolDice$Disk" "writes" "I" ∈ gg_L := gg_a1 121 rfl rfl
theorem wd_155 : Cond.fieldLink r_Pd 116 "PoolDice$Disk" "writes" "I" ∈ gg_L := gg_a1 122 rfl rfl
theorem wd_156 : Cond.fieldLink r_Dk 19 "PoolDice$Disk" "tillCrash" "I" ∈ gg_L := gg_a1 123 rfl rfl
theorem wd_157 : Cond.fieldLink r_Pd 113 "PoolDice$Disk" "tillCrash" "I" ∈ gg_L := gg_a1 124 rfl rfl
theorem wd_158 : Cond.laysFinal "PoolDice$Disk" "PoolDice$Disk" "bytes" "[I" ∈ gg_L := gg_a1 125 rfl rfl
theorem wd_160 : Cond.lays "PoolDice$Disk" "PoolDice$Disk" "writes" "I" ∈ gg_L := gg_a1 127 rfl rfl
theorem wd_162 : Cond.lays "PoolDice$Disk" "PoolDice$Disk" "tillCrash" "I" ∈ gg_L := gg_a1 129 rfl rfl
theorem wd_165 : Cond.fieldLink r_Pd 10 "PoolDice" "generator" "LPoolDice$Generator;" ∈ gg_L := gg_a1 132 rfl rfl
theorem wd_166 : Cond.fieldLink r_Pd 19 "PoolDice" "disk" "LPoolDice$Disk;" ∈ gg_L := gg_a1 133 rfl rfl
theorem wd_167 : Cond.fieldLink r_Pd 23 "PoolDice" "given" "[I" ∈ gg_L := gg_a1 134 rfl rfl
theorem wd_168 : Cond.fieldLink r_Pd 27 "PoolDice" "givenCount" "I" ∈ gg_L := gg_a1 135 rfl rfl
theorem wd_169 : Cond.fieldLink r_Pd 31 "PoolDice" "newSeed" "[I" ∈ gg_L := gg_a1 136 rfl rfl
theorem wd_170 : Cond.laysFinal "PoolDice" "PoolDice" "generator" "LPoolDice$Generator;" ∈ gg_L := gg_a1 137 rfl rfl
theorem wd_172 : Cond.laysFinal "PoolDice" "PoolDice" "disk" "LPoolDice$Disk;" ∈ gg_L := gg_a1 139 rfl rfl
theorem wd_174 : Cond.laysFinal "PoolDice" "PoolDice" "given" "[I" ∈ gg_L := gg_a1 141 rfl rfl
theorem wd_176 : Cond.lays "PoolDice" "PoolDice" "givenCount" "I" ∈ gg_L := gg_a1 143 rfl rfl
theorem wd_178 : Cond.laysFinal "PoolDice" "PoolDice" "newSeed" "[I" ∈ gg_L := gg_a1 145 rfl rfl
theorem wd_181 : Cond.methodLink r_La 13 y_Pd_init ∈ gg_L := gg_a1 148 rfl rfl
theorem wd_182 : Cond.instanceMethod y_Pd_init ∈ gg_L := gg_a1 149 rfl rfl
theorem wd_183 : Cond.selects r_Pd y_Pd_init y_Pd_init ∈ gg_L := gg_a1 150 rfl rfl
theorem wd_184 : Cond.code y_Pd_init c_Pd_init 1 none ∈ gg_L := gg_a1 151 rfl rfl
theorem wd_185 : Cond.methodLink r_Pd 34 y_Pd_startAgain ∈ gg_L := gg_a1 152 rfl rfl
theorem wd_187 : Cond.instanceMethod y_Pd_startAgain ∈ gg_L := gg_a1 154 rfl rfl
theorem wd_188 : Cond.code y_Pd_startAgain c_Pd_startAgain 1 none ∈ gg_L := gg_a1 155 rfl rfl
theorem wd_189 : Cond.methodLink r_Pd 122 y_Ge_reset ∈ gg_L := gg_a1 156 rfl rfl
theorem wd_190 : Cond.instanceMethod y_Ge_reset ∈ gg_L := gg_a1 157 rfl rfl
theorem wd_191 : Cond.selects r_Ge y_Ge_reset y_Ge_reset ∈ gg_L := gg_a1 158 rfl rfl
theorem wd_192 : Cond.code y_Ge_reset c_Ge_reset 2 none ∈ gg_L := gg_a1 159 rfl rfl
theorem wd_193 : Cond.methodLink r_Pd 37 y_Dk_tellCrash ∈ gg_L := gg_a1 160 rfl rfl
theorem wd_194 : Cond.instanceMethod y_Dk_tellCrash ∈ gg_L := gg_a1 161 rfl rfl
theorem wd_195 : Cond.selects r_Dk y_Dk_tellCrash y_Dk_tellCrash ∈ gg_L := gg_a1 162 rfl rfl
theorem wd_196 : Cond.code y_Dk_tellCrash c_Dk_tellCrash 2 none ∈ gg_L := gg_a1 163 rfl rfl
theorem wd_197 : Cond.methodLink r_La 17 y_Pd_event ∈ gg_L := gg_a1 164 rfl rfl
theorem wd_198 : Cond.instanceMethod y_Pd_event ∈ gg_L := gg_a1 165 rfl rfl
theorem wd_199 : Cond.selects r_Pd y_Pd_event y_Pd_event ∈ gg_L := gg_a1 166 rfl rfl
theorem wd_200 : Cond.code y_Pd_event c_Pd_event 4 (some .boolean) ∈ gg_L := gg_a1 167 rfl rfl
theorem wd_201 : Cond.methodLink r_Pd 41 y_Pd_isByte ∈ gg_L := gg_a1 168 rfl rfl
theorem wd_202 : Cond.static y_Pd_isByte ∈ gg_L := gg_a1 169 rfl rfl
theorem wd_203 : Cond.code y_Pd_isByte c_Pd_isByte 1 (some .boolean) ∈ gg_L := gg_a1 170 rfl rfl
theorem wd_204 : Cond.methodLink r_Pd 45 y_Pd_isPool ∈ gg_L := gg_a1 171 rfl rfl
theorem wd_205 : Cond.static y_Pd_isPool ∈ gg_L := gg_a1 172 rfl rfl
theorem wd_206 : Cond.code y_Pd_isPool c_Pd_isPool 1 (some .boolean) ∈ gg_L := gg_a1 173 rfl rfl
theorem wd_207 : Cond.methodLink r_Pd 52 y_Po_add ∈ gg_L := gg_a1 174 rfl rfl
theorem wd_208 : Cond.instanceMethod y_Po_add ∈ gg_L := gg_a1 175 rfl rfl
theorem wd_209 : Cond.selects r_Po y_Po_add y_Po_add ∈ gg_L := gg_a1 176 rfl rfl
theorem wd_210 : Cond.code y_Po_add c_Po_add 3 (some .boolean) ∈ gg_L := gg_a1 177 rfl rfl
theorem wd_211 : Cond.methodLink r_Po 17 y_Po_grow ∈ gg_L := gg_a1 178 rfl rfl
theorem wd_213 : Cond.instanceMethod y_Po_grow ∈ gg_L := gg_a1 180 rfl rfl
theorem wd_214 : Cond.code y_Po_grow c_Po_grow 2 none ∈ gg_L := gg_a1 181 rfl rfl
theorem wd_215 : Cond.methodLink r_Po 20 arraycopyName ∈ gg_L := gg_a1 182 rfl rfl
theorem wd_216 : Cond.static arraycopyName ∈ gg_L := gg_a1 183 rfl rfl
theorem wd_217 : Cond.native arraycopyName ∈ gg_L := gg_a1 184 rfl rfl
theorem wd_218 : Cond.methodLink r_La 22 y_Pd_tick ∈ gg_L := gg_a1 185 rfl rfl
theorem wd_219 : Cond.instanceMethod y_Pd_tick ∈ gg_L := gg_a1 186 rfl rfl
theorem wd_220 : Cond.selects r_Pd y_Pd_tick y_Pd_tick ∈ gg_L := gg_a1 187 rfl rfl
theorem wd_221 : Cond.code y_Pd_tick c_Pd_tick 2 (some .int) ∈ gg_L := gg_a1 188 rfl rfl
theorem wd_222 : Cond.methodLink r_Pd 58 y_Ge_passTime ∈ gg_L := gg_a1 189 rfl rfl
theorem wd_223 : Cond.instanceMethod y_Ge_passTime ∈ gg_L := gg_a1 190 rfl rfl
theorem wd_224 : Cond.selects r_Ge y_Ge_passTime y_Ge_passTime ∈ gg_L := gg_a1 191 rfl rfl
theorem wd_225 : Cond.code y_Ge_passTime c_Ge_passTime 2 (some .int) ∈ gg_L := gg_a1 192 rfl rfl
theorem wd_226 : Cond.constant r_Ge 60 (2147483647) ∈ gg_L := gg_a1 193 rfl rfl
theorem wd_227 : Cond.methodLink r_La 27 y_Pd_request ∈ gg_L := gg_a1 194 rfl rfl
theorem wd_228 : Cond.instanceMethod y_Pd_request ∈ gg_L := gg_a1 195 rfl rfl
theorem wd_229 : Cond.selects r_Pd y_Pd_request y_Pd_request ∈ gg_L := gg_a1 196 rfl rfl
theorem wd_230 : Cond.code y_Pd_request c_Pd_request 2 (some .int) ∈ gg_L := gg_a1 197 rfl rfl
theorem wd_231 : Cond.methodLink r_Pd 62 y_Ge_isDrawingDue ∈ gg_L := gg_a1 198 rfl rfl
theorem wd_232 : Cond.instanceMethod y_Ge_isDrawingDue ∈ gg_L := gg_a1 199 rfl rfl
theorem wd_233 : Cond.selects r_Ge y_Ge_isDrawingDue y_Ge_isDrawingDue ∈ gg_L := gg_a1 200 rfl rfl
theorem wd_234 : Cond.code y_Ge_isDrawingDue c_Ge_isDrawingDue 1 (some .boolean) ∈ gg_L := gg_a1 201 rfl rfl
theorem wd_235 : Cond.methodLink r_Pd 66 y_Ge_draw ∈ gg_L := gg_a1 202 rfl rfl
theorem wd_236 : Cond.instanceMethod y_Ge_draw ∈ gg_L := gg_a1 203 rfl rfl
theorem wd_237 : Cond.selects r_Ge y_Ge_draw y_Ge_draw ∈ gg_L := gg_a1 204 rfl rfl
theorem wd_238 : Cond.code y_Ge_draw c_Ge_draw 3 none ∈ gg_L := gg_a1 205 rfl rfl
theorem wd_239 : Cond.methodLink r_Ge 61 y_Ge_isMultiple ∈ gg_L := gg_a1 206 rfl rfl
theorem wd_240 : Cond.static y_Ge_isMultiple ∈ gg_L := gg_a1 207 rfl rfl
theorem wd_241 : Cond.code y_Ge_isMultiple c_Ge_isMultiple 2 (some .boolean) ∈ gg_L := gg_a1 208 rfl rfl
theorem wd_242 : Cond.methodLink r_Ge 68 y_Dg_twice ∈ gg_L := gg_a1 209 rfl rfl
theorem wd_243 : Cond.instanceMethod y_Dg_twice ∈ gg_L := gg_a1 210 rfl rfl
theorem wd_244 : Cond.selects r_Dg y_Dg_twice y_Dg_twice ∈ gg_L := gg_a1 211 rfl rfl
theorem wd_245 : Cond.code y_Dg_twice c_Dg_twice 5 none ∈ gg_L := gg_a1 212 rfl rfl
theorem wd_246 : Cond.methodLink r_Dg 22 y_Dg_digest ∈ gg_L := gg_a1 213 rfl rfl
theorem wd_248 : Cond.instanceMethod y_Dg_digest ∈ gg_L := gg_a1 215 rfl rfl
theorem wd_249 : Cond.code y_Dg_digest c_Dg_digest 5 none ∈ gg_L := gg_a1 216 rfl rfl
theorem wd_250 : Cond.methodLink r_Dg 29 arraycopyName ∈ gg_L := gg_a1 217 rfl rfl
theorem wd_251 : Cond.methodLink r_Dg 35 y_Dg_takeWords ∈ gg_L := gg_a1 218 rfl rfl
theorem wd_253 : Cond.instanceMethod y_Dg_takeWords ∈ gg_L := gg_a1 220 rfl rfl
theorem wd_254 : Cond.code y_Dg_takeWords c_Dg_takeWords 8 none ∈ gg_L := gg_a1 221 rfl rfl
theorem wd_255 : Cond.methodLink r_Dg 45 y_Dg_filledByte ∈ gg_L := gg_a1 222 rfl rfl
theorem wd_256 : Cond.static y_Dg_filledByte ∈ gg_L := gg_a1 223 rfl rfl
theorem wd_257 : Cond.code y_Dg_filledByte c_Dg_filledByte 6 (some .int) ∈ gg_L := gg_a1 224 rfl rfl
theorem wd_258 : Cond.constantLong r_Dg 49 (8) ∈ gg_L := gg_a1 225 rfl rfl
theorem wd_259 : Cond.methodLink r_Dg 39 y_Dg_spreadWords ∈ gg_L := gg_a1 226 rfl rfl
theorem wd_261 : Cond.instanceMethod y_Dg_spreadWords ∈ gg_L := gg_a1 228 rfl rfl
theorem wd_262 : Cond.code y_Dg_spreadWords c_Dg_spreadWords 6 none ∈ gg_L := gg_a1 229 rfl rfl
theorem wd_263 : Cond.methodLink r_Dg 51 y_In_rotateRight ∈ gg_L := gg_a1 230 rfl rfl
theorem wd_264 : Cond.static y_In_rotateRight ∈ gg_L := gg_a1 231 rfl rfl
theorem wd_265 : Cond.code y_In_rotateRight c_In_rotateRight 2 (some .int) ∈ gg_L := gg_a1 232 rfl rfl
theorem wd_266 : Cond.methodLink r_Dg 42 y_Dg_mixWords ∈ gg_L := gg_a1 233 rfl rfl
theorem wd_268 : Cond.instanceMethod y_Dg_mixWords ∈ gg_L := gg_a1 235 rfl rfl
theorem wd_269 : Cond.code y_Dg_mixWords c_Dg_mixWords 14 none ∈ gg_L := gg_a1 236 rfl rfl
theorem wd_270 : Cond.fieldLink r_Dg 57 "PoolDice$Digest" "K" "[I" ∈ gg_L := gg_a1 237 rfl rfl
theorem wd_272 : Cond.methodLink r_Dg 26 y_Dg_handOut ∈ gg_L := gg_a1 239 rfl rfl
theorem wd_274 : Cond.instanceMethod y_Dg_handOut ∈ gg_L := gg_a2 1 rfl rfl
theorem wd_275 : Cond.code y_Dg_handOut c_Dg_handOut 4 none ∈ gg_L := gg_a2 2 rfl rfl
theorem wd_276 : Cond.methodLink r_Ge 71 y_Ge_reseed ∈ gg_L := gg_a2 3 rfl rfl
theorem wd_278 : Cond.instanceMethod y_Ge_reseed ∈ gg_L := gg_a2 5 rfl rfl
theorem wd_279 : Cond.code y_Ge_reseed c_Ge_reseed 2 none ∈ gg_L := gg_a2 6 rfl rfl
theorem wd_280 : Cond.methodLink r_Ge 75 arraycopyName ∈ gg_L := gg_a2 7 rfl rfl
theorem wd_281 : Cond.methodLink r_Ge 81 y_Ge_countOn ∈ gg_L := gg_a2 8 rfl rfl
theorem wd_283 : Cond.instanceMethod y_Ge_countOn ∈ gg_L := gg_a2 10 rfl rfl
theorem wd_284 : Cond.code y_Ge_countOn c_Ge_countOn 2 none ∈ gg_L := gg_a2 11 rfl rfl
theorem wd_285 : Cond.methodLink r_Pd 69 y_Ge_isSeeded ∈ gg_L := gg_a2 12 rfl rfl
theorem wd_286 : Cond.instanceMethod y_Ge_isSeeded ∈ gg_L := gg_a2 13 rfl rfl
theorem wd_287 : Cond.selects r_Ge y_Ge_isSeeded y_Ge_isSeeded ∈ gg_L := gg_a2 14 rfl rfl
theorem wd_288 : Cond.code y_Ge_isSeeded c_Ge_isSeeded 2 (some .boolean) ∈ gg_L := gg_a2 15 rfl rfl
theorem wd_289 : Cond.methodLink r_Pd 72 y_Ge_generate ∈ gg_L := gg_a2 16 rfl rfl
theorem wd_290 : Cond.instanceMethod y_Ge_generate ∈ gg_L := gg_a2 17 rfl rfl
theorem wd_291 : Cond.selects r_Ge y_Ge_generate y_Ge_generate ∈ gg_L := gg_a2 18 rfl rfl
theorem wd_292 : Cond.code y_Ge_generate c_Ge_generate 4 none ∈ gg_L := gg_a2 19 rfl rfl
theorem wd_293 : Cond.methodLink r_Ge 84 y_Ci_takeKey ∈ gg_L := gg_a2 20 rfl rfl
theorem wd_294 : Cond.instanceMethod y_Ci_takeKey ∈ gg_L := gg_a2 21 rfl rfl
theorem wd_295 : Cond.selects r_Ci y_Ci_takeKey y_Ci_takeKey ∈ gg_L := gg_a2 22 rfl rfl
theorem wd_296 : Cond.code y_Ci_takeKey c_Ci_takeKey 5 none ∈ gg_L := gg_a2 23 rfl rfl
theorem wd_297 : Cond.methodLink r_Ci 19 arraycopyName ∈ gg_L := gg_a2 24 rfl rfl
theorem wd_298 : Cond.methodLink r_Ci 25 y_Ci_makeTurnedWord ∈ gg_L := gg_a2 25 rfl rfl
theorem wd_300 : Cond.instanceMethod y_Ci_makeTurnedWord ∈ gg_L := gg_a2 27 rfl rfl
theorem wd_301 : Cond.code y_Ci_makeTurnedWord c_Ci_makeTurnedWord 5 none ∈ gg_L := gg_a2 28 rfl rfl
theorem wd_302 : Cond.fieldLink r_Ci 33 "PoolDice$Cipher" "S" "[I" ∈ gg_L := gg_a2 29 rfl rfl
theorem wd_304 : Cond.methodLink r_Ci 29 y_Ci_timesX ∈ gg_L := gg_a2 31 rfl rfl
theorem wd_305 : Cond.static y_Ci_timesX ∈ gg_L := gg_a2 32 rfl rfl
theorem wd_306 : Cond.code y_Ci_timesX c_Ci_timesX 1 (some .int) ∈ gg_L := gg_a2 33 rfl rfl
theorem wd_307 : Cond.methodLink r_Ge 88 y_Ci_encrypt ∈ gg_L := gg_a2 34 rfl rfl
theorem wd_308 : Cond.instanceMethod y_Ci_encrypt ∈ gg_L := gg_a2 35 rfl rfl
theorem wd_309 : Cond.selects r_Ci y_Ci_encrypt y_Ci_encrypt ∈ gg_L := gg_a2 36 rfl rfl
theorem wd_310 : Cond.code y_Ci_encrypt c_Ci_encrypt 5 none ∈ gg_L := gg_a2 37 rfl rfl
theorem wd_311 : Cond.methodLink r_Ci 36 y_Ci_addRoundKey ∈ gg_L := gg_a2 38 rfl rfl
theorem wd_313 : Cond.instanceMethod y_Ci_addRoundKey ∈ gg_L := gg_a2 40 rfl rfl
theorem wd_314 : Cond.code y_Ci_addRoundKey c_Ci_addRoundKey 3 none ∈ gg_L := gg_a2 41 rfl rfl
theorem wd_315 : Cond.methodLink r_Ci 40 y_Ci_substituteAndMove ∈ gg_L := gg_a2 42 rfl rfl
theorem wd_317 : Cond.instanceMethod y_Ci_substituteAndMove ∈ gg_L := gg_a2 44 rfl rfl
theorem wd_318 : Cond.code y_Ci_substituteAndMove c_Ci_substituteAndMove 2 none ∈ gg_L := gg_a2 45 rfl rfl
theorem wd_319 : Cond.methodLink r_Ci 43 y_Ci_mixColumns ∈ gg_L := gg_a2 46 rfl rfl
theorem wd_321 : Cond.instanceMethod y_Ci_mixColumns ∈ gg_L := gg_a2 48 rfl rfl
theorem wd_322 : Cond.code y_Ci_mixColumns c_Ci_mixColumns 7 none ∈ gg_L := gg_a2 49 rfl rfl
theorem wd_323 : Cond.methodLink r_La 31 y_Pd_out ∈ gg_L := gg_a2 50 rfl rfl
theorem wd_324 : Cond.instanceMethod y_Pd_out ∈ gg_L := gg_a2 51 rfl rfl
theorem wd_325 : Cond.selects r_Pd y_Pd_out y_Pd_out ∈ gg_L := gg_a2 52 rfl rfl
theorem wd_326 : Cond.code y_Pd_out c_Pd_out 2 (some .int) ∈ gg_L := gg_a2 53 rfl rfl
theorem wd_327 : Cond.methodLink r_Pd 76 y_Pd_byteAt ∈ gg_L := gg_a2 54 rfl rfl
theorem wd_328 : Cond.static y_Pd_byteAt ∈ gg_L := gg_a2 55 rfl rfl
theorem wd_329 : Cond.code y_Pd_byteAt c_Pd_byteAt 3 (some .int) ∈ gg_L := gg_a2 56 rfl rfl
theorem wd_330 : Cond.methodLink r_La 35 y_Pd_save ∈ gg_L := gg_a2 57 rfl rfl
theorem wd_331 : Cond.instanceMethod y_Pd_save ∈ gg_L := gg_a2 58 rfl rfl
theorem wd_332 : Cond.selects r_Pd y_Pd_save y_Pd_save ∈ gg_L := gg_a2 59 rfl rfl
theorem wd_333 : Cond.code y_Pd_save c_Pd_save 1 (some .int) ∈ gg_L := gg_a2 60 rfl rfl
theorem wd_334 : Cond.methodLink r_Pd 80 y_Pd_saveNewSeed ∈ gg_L := gg_a2 61 rfl rfl
theorem wd_336 : Cond.instanceMethod y_Pd_saveNewSeed ∈ gg_L := gg_a2 63 rfl rfl
theorem wd_337 : Cond.code y_Pd_saveNewSeed c_Pd_saveNewSeed 1 (some .int) ∈ gg_L := gg_a2 64 rfl rfl
theorem wd_338 : Cond.methodLink r_Pd 125 y_Dk_store ∈ gg_L := gg_a2 65 rfl rfl
theorem wd_339 : Cond.instanceMethod y_Dk_store ∈ gg_L := gg_a2 66 rfl rfl
theorem wd_340 : Cond.selects r_Dk y_Dk_store y_Dk_store ∈ gg_L := gg_a2 67 rfl rfl
theorem wd_341 : Cond.code y_Dk_store c_Dk_store 5 (some .boolean) ∈ gg_L := gg_a2 68 rfl rfl
theorem wd_342 : Cond.methodLink r_Dk 22 y_Dk_write ∈ gg_L := gg_a2 69 rfl rfl
theorem wd_344 : Cond.instanceMethod y_Dk_write ∈ gg_L := gg_a2 71 rfl rfl
theorem wd_345 : Cond.code y_Dk_write c_Dk_write 3 (some .boolean) ∈ gg_L := gg_a2 72 rfl rfl
theorem wd_346 : Cond.methodLink r_La 40 y_Pd_load ∈ gg_L := gg_a2 73 rfl rfl
theorem wd_347 : Cond.instanceMethod y_Pd_load ∈ gg_L := gg_a2 74 rfl rfl
theorem wd_348 : Cond.selects r_Pd y_Pd_load y_Pd_load ∈ gg_L := gg_a2 75 rfl rfl
theorem wd_349 : Cond.code y_Pd_load c_Pd_load 2 (some .int) ∈ gg_L := gg_a2 76 rfl rfl
theorem wd_350 : Cond.methodLink r_Pd 84 y_Dk_seedPlace ∈ gg_L := gg_a2 77 rfl rfl
theorem wd_351 : Cond.instanceMethod y_Dk_seedPlace ∈ gg_L := gg_a2 78 rfl rfl
theorem wd_352 : Cond.selects r_Dk y_Dk_seedPlace y_Dk_seedPlace ∈ gg_L := gg_a2 79 rfl rfl
theorem wd_353 : Cond.code y_Dk_seedPlace c_Dk_seedPlace 1 (some .int) ∈ gg_L := gg_a2 80 rfl rfl
theorem wd_354 : Cond.methodLink r_Pd 90 y_Ge_reseedWith ∈ gg_L := gg_a2 81 rfl rfl
theorem wd_355 : Cond.instanceMethod y_Ge_reseedWith ∈ gg_L := gg_a2 82 rfl rfl
theorem wd_356 : Cond.selects r_Ge y_Ge_reseedWith y_Ge_reseedWith ∈ gg_L := gg_a2 83 rfl rfl
theorem wd_357 : Cond.code y_Ge_reseedWith c_Ge_reseedWith 4 none ∈ gg_L := gg_a2 84 rfl rfl
theorem wd_358 : Cond.methodLink r_La 44 y_Pd_crash ∈ gg_L := gg_a2 85 rfl rfl
theorem wd_359 : Cond.instanceMethod y_Pd_crash ∈ gg_L := gg_a2 86 rfl rfl
theorem wd_360 : Cond.selects r_Pd y_Pd_crash y_Pd_crash ∈ gg_L := gg_a2 87 rfl rfl
theorem wd_361 : Cond.code y_Pd_crash c_Pd_crash 2 none ∈ gg_L := gg_a2 88 rfl rfl
theorem wd_362 : Cond.methodLink r_La 49 y_Pd_byteOf ∈ gg_L := gg_a2 89 rfl rfl
theorem wd_363 : Cond.instanceMethod y_Pd_byteOf ∈ gg_L := gg_a2 90 rfl rfl
theorem wd_364 : Cond.selects r_Pd y_Pd_byteOf y_Pd_byteOf ∈ gg_L := gg_a2 91 rfl rfl
theorem wd_365 : Cond.code y_Pd_byteOf c_Pd_byteOf 3 (some .int) ∈ gg_L := gg_a2 92 rfl rfl
theorem wd_366 : Cond.methodLink r_Pd 100 y_Pd_byteOfPool ∈ gg_L := gg_a2 93 rfl rfl
theorem wd_368 : Cond.instanceMethod y_Pd_byteOfPool ∈ gg_L := gg_a2 95 rfl rfl
theorem wd_369 : Cond.code y_Pd_byteOfPool c_Pd_byteOfPool 4 (some .int) ∈ gg_L := gg_a2 96 rfl rfl
theorem wd_370 : Cond.methodLink r_Pd 131 y_Ge_byteOfTwice ∈ gg_L := gg_a2 97 rfl rfl
theorem wd_371 : Cond.instanceMethod y_Ge_byteOfTwice ∈ gg_L := gg_a2 98 rfl rfl
theorem wd_372 : Cond.selects r_Ge y_Ge_byteOfTwice y_Ge_byteOfTwice ∈ gg_L := gg_a2 99 rfl rfl
theorem wd_373 : Cond.code y_Ge_byteOfTwice c_Ge_byteOfTwice 3 (some .int) ∈ gg_L := gg_a2 100 rfl rfl
theorem wd_374 : Cond.methodLink r_La 54 y_Pd_spoil ∈ gg_L := gg_a2 101 rfl rfl
theorem wd_375 : Cond.instanceMethod y_Pd_spoil ∈ gg_L := gg_a2 102 rfl rfl
theorem wd_376 : Cond.selects r_Pd y_Pd_spoil y_Pd_spoil ∈ gg_L := gg_a2 103 rfl rfl
theorem wd_377 : Cond.code y_Pd_spoil c_Pd_spoil 3 (some .boolean) ∈ gg_L := gg_a2 104 rfl rfl
theorem wd_378 : Cond.methodLink r_La 59 y_Pd_about ∈ gg_L := gg_a2 105 rfl rfl
theorem wd_379 : Cond.instanceMethod y_Pd_about ∈ gg_L := gg_a2 106 rfl rfl
theorem wd_380 : Cond.selects r_Pd y_Pd_about y_Pd_about ∈ gg_L := gg_a2 107 rfl rfl
theorem wd_381 : Cond.code y_Pd_about c_Pd_about 2 (some .int) ∈ gg_L := gg_a2 108 rfl rfl
theorem wd_382 : Cond.methodLink r_Pd 119 y_Pd_sizeOfPool ∈ gg_L := gg_a2 109 rfl rfl
theorem wd_384 : Cond.instanceMethod y_Pd_sizeOfPool ∈ gg_L := gg_a2 111 rfl rfl
theorem wd_385 : Cond.code y_Pd_sizeOfPool c_Pd_sizeOfPool 3 (some .int) ∈ gg_L := gg_a2 112 rfl rfl
theorem wd_386 : Cond.classLink r_La 10 r_Mo ∈ gg_L := gg_a2 113 rfl rfl
theorem wd_387 : Cond.instantiable r_Mo 25 ∈ gg_L := gg_a2 114 rfl rfl
theorem wd_388 : Cond.methodLink r_La 12 y_Mo_new ∈ gg_L := gg_a2 115 rfl rfl
theorem wd_389 : Cond.instanceMethod y_Mo_new ∈ gg_L := gg_a2 116 rfl rfl
theorem wd_390 : Cond.code y_Mo_new c_Mo_new 1 none ∈ gg_L := gg_a2 117 rfl rfl
theorem wd_391 : Cond.methodLink r_Mo 1 objectInit ∈ gg_L := gg_a2 118 rfl rfl
theorem wd_392 : Cond.constant r_Mo 23 (51200) ∈ gg_L := gg_a2 119 rfl rfl
theorem wd_393 : Cond.fieldLink r_Mo 63 "PoolDiceModel" "code" "I" ∈ gg_L := gg_a2 120 rfl rfl
theorem wd_394 : Cond.fieldLink r_Mo 7 "PoolDiceModel" "key" "[I" ∈ gg_L := gg_a2 121 rfl rfl
theorem wd_395 : Cond.fieldLink r_Mo 13 "PoolDiceModel" "counter" "[I" ∈ gg_L := gg_a2 122 rfl rfl
theorem wd_396 : Cond.fieldLink r_Mo 188 "PoolDiceModel" "reseeds" "I" ∈ gg_L := gg_a2 123 rfl rfl
theorem wd_397 : Cond.fieldLink r_Mo 191 "PoolDiceModel" "clock" "I" ∈ gg_L := gg_a2 124 rfl rfl
theorem wd_398 : Cond.fieldLink r_Mo 16 "PoolDiceModel" "latest" "I" ∈ gg_L := gg_a2 125 rfl rfl
theorem wd_399 : Cond.fieldLink r_Mo 20 "PoolDiceModel" "lengths" "[I" ∈ gg_L := gg_a2 126 rfl rfl
theorem wd_400 : Cond.fieldLink r_Mo 24 "PoolDiceModel" "pools" "[I" ∈ gg_L := gg_a2 127 rfl rfl
theorem wd_401 : Cond.fieldLink r_Mo 27 "PoolDiceModel" "out" "[I" ∈ gg_L := gg_a2 128 rfl rfl
theorem wd_402 : Cond.fieldLink r_Mo 194 "PoolDiceModel" "outs" "I" ∈ gg_L := gg_a2 129 rfl rfl
theorem wd_403 : Cond.fieldLink r_Mo 30 "PoolDiceModel" "disk" "[I" ∈ gg_L := gg_a2 130 rfl rfl
theorem wd_404 : Cond.fieldLink r_Mo 197 "PoolDiceModel" "told" "I" ∈ gg_L := gg_a2 131 rfl rfl
theorem wd_405 : Cond.fieldLink r_Mo 223 "PoolDiceModel" "writes" "I" ∈ gg_L := gg_a2 132 rfl rfl
theorem wd_406 : Cond.fieldLink r_Mo 33 "PoolDiceModel" "row" "[I" ∈ gg_L := gg_a2 133 rfl rfl
theorem wd_407 : Cond.fieldLink r_Mo 138 "PoolDiceModel" "length" "I" ∈ gg_L := gg_a2 134 rfl rfl
theorem wd_408 : Cond.fieldLink r_Mo 36 "PoolDiceModel" "words" "[I" ∈ gg_L := gg_a2 135 rfl rfl
theorem wd_409 : Cond.fieldLink r_Mo 39 "PoolDiceModel" "h" "[I" ∈ gg_L := gg_a2 136 rfl rfl
theorem wd_410 : Cond.fieldLink r_Mo 42 "PoolDiceModel" "digest" "[I" ∈ gg_L := gg_a2 137 rfl rfl
theorem wd_411 : Cond.fieldLink r_Mo 45 "PoolDiceModel" "drawn" "[I" ∈ gg_L := gg_a2 138 rfl rfl
theorem wd_412 : Cond.fieldLink r_Mo 48 "PoolDiceModel" "made" "[I" ∈ gg_L := gg_a2 139 rfl rfl
theorem wd_413 : Cond.fieldLink r_Mo 51 "PoolDiceModel" "block" "[I" ∈ gg_L := gg_a2 140 rfl rfl
theorem wd_414 : Cond.fieldLink r_Mo 54 "PoolDiceModel" "other" "[I" ∈ gg_L := gg_a2 141 rfl rfl
theorem wd_415 : Cond.fieldLink r_Mo 57 "PoolDiceModel" "schedule" "[I" ∈ gg_L := gg_a2 142 rfl rfl
theorem wd_416 : Cond.fieldLink r_Mo 60 "PoolDiceModel" "turns" "[I" ∈ gg_L := gg_a2 143 rfl rfl
theorem wd_417 : Cond.fieldLink r_Mo 168 "PoolDiceModel" "ready" "Z" ∈ gg_L := gg_a2 144 rfl rfl
theorem wd_418 : Cond.lays "PoolDiceModel" "PoolDiceModel" "code" "I" ∈ gg_L := gg_a2 145 rfl rfl
theorem wd_420 : Cond.laysFinal "PoolDiceModel" "PoolDiceModel" "key" "[I" ∈ gg_L := gg_a2 147 rfl rfl
theorem wd_422 : Cond.laysFinal "PoolDiceModel" "PoolDiceModel" "counter" "[I" ∈ gg_L := gg_a2 149 rfl rfl
theorem wd_424 : Cond.lays "PoolDiceModel" "PoolDiceModel" "reseeds" "I" ∈ gg_L := gg_a2 151 rfl rfl
theorem wd_426 : Cond.lays "PoolDiceModel" "PoolDiceModel" "clock" "I" ∈ gg_L := gg_a2 153 rfl rfl
theorem wd_428 : Cond.lays "PoolDiceModel" "PoolDiceModel" "latest" "I" ∈ gg_L := gg_a2 155 rfl rfl
theorem wd_430 : Cond.laysFinal "PoolDiceModel" "PoolDiceModel" "lengths" "[I" ∈ gg_L := gg_a2 157 rfl rfl
theorem wd_432 : Cond.laysFinal "PoolDiceModel" "PoolDiceModel" "pools" "[I" ∈ gg_L := gg_a2 159 rfl rfl
theorem wd_434 : Cond.laysFinal "PoolDiceModel" "PoolDiceModel" "out" "[I" ∈ gg_L := gg_a2 161 rfl rfl
theorem wd_436 : Cond.lays "PoolDiceModel" "PoolDiceModel" "outs" "I" ∈ gg_L := gg_a2 163 rfl rfl
theorem wd_438 : Cond.laysFinal "PoolDiceModel" "PoolDiceModel" "disk" "[I" ∈ gg_L := gg_a2 165 rfl rfl
theorem wd_440 : Cond.lays "PoolDiceModel" "PoolDiceModel" "told" "I" ∈ gg_L := gg_a2 167 rfl rfl
theorem wd_442 : Cond.lays "PoolDiceModel" "PoolDiceModel" "writes" "I" ∈ gg_L := gg_a2 169 rfl rfl
theorem wd_444 : Cond.laysFinal "PoolDiceModel" "PoolDiceModel" "row" "[I" ∈ gg_L := gg_a2 171 rfl rfl
theorem wd_446 : Cond.lays "PoolDiceModel" "PoolDiceModel" "length" "I" ∈ gg_L := gg_a2 173 rfl rfl
theorem wd_448 : Cond.laysFinal "PoolDiceModel" "PoolDiceModel" "words" "[I" ∈ gg_L := gg_a2 175 rfl rfl
theorem wd_450 : Cond.laysFinal "PoolDiceModel" "PoolDiceModel" "h" "[I" ∈ gg_L := gg_a2 177 rfl rfl
theorem wd_452 : Cond.laysFinal "PoolDiceModel" "PoolDiceModel" "digest" "[I" ∈ gg_L := gg_a2 179 rfl rfl
theorem wd_454 : Cond.laysFinal "PoolDiceModel" "PoolDiceModel" "drawn" "[I" ∈ gg_L := gg_a2 181 rfl rfl
theorem wd_456 : Cond.laysFinal "PoolDiceModel" "PoolDiceModel" "made" "[I" ∈ gg_L := gg_a2 183 rfl rfl
theorem wd_458 : Cond.laysFinal "PoolDiceModel" "PoolDiceModel" "block" "[I" ∈ gg_L := gg_a2 185 rfl rfl
theorem wd_460 : Cond.laysFinal "PoolDiceModel" "PoolDiceModel" "other" "[I" ∈ gg_L := gg_a2 187 rfl rfl
theorem wd_462 : Cond.laysFinal "PoolDiceModel" "PoolDiceModel" "schedule" "[I" ∈ gg_L := gg_a2 189 rfl rfl
theorem wd_464 : Cond.laysFinal "PoolDiceModel" "PoolDiceModel" "turns" "[I" ∈ gg_L := gg_a2 191 rfl rfl
theorem wd_466 : Cond.lays "PoolDiceModel" "PoolDiceModel" "ready" "Z" ∈ gg_L := gg_a2 193 rfl rfl
theorem wd_469 : Cond.methodLink r_La 16 y_Mo_init ∈ gg_L := gg_a2 196 rfl rfl
theorem wd_470 : Cond.instanceMethod y_Mo_init ∈ gg_L := gg_a2 197 rfl rfl
theorem wd_471 : Cond.selects r_Mo y_Mo_init y_Mo_init ∈ gg_L := gg_a2 198 rfl rfl
theorem wd_472 : Cond.code y_Mo_init c_Mo_init 1 none ∈ gg_L := gg_a2 199 rfl rfl
theorem wd_473 : Cond.methodLink r_Mo 200 y_Mo_first ∈ gg_L := gg_a2 200 rfl rfl
theorem wd_475 : Cond.instanceMethod y_Mo_first ∈ gg_L := gg_a2 202 rfl rfl
theorem wd_476 : Cond.code y_Mo_first c_Mo_first 2 none ∈ gg_L := gg_a2 203 rfl rfl
theorem wd_477 : Cond.methodLink r_La 21 y_Mo_event ∈ gg_L := gg_a2 204 rfl rfl
theorem wd_478 : Cond.instanceMethod y_Mo_event ∈ gg_L := gg_a2 205 rfl rfl
theorem wd_479 : Cond.selects r_Mo y_Mo_event y_Mo_event ∈ gg_L := gg_a2 206 rfl rfl
theorem wd_480 : Cond.code y_Mo_event c_Mo_event 5 (some .boolean) ∈ gg_L := gg_a2 207 rfl rfl
theorem wd_481 : Cond.methodLink r_Mo 203 y_Mo_in ∈ gg_L := gg_a2 208 rfl rfl
theorem wd_482 : Cond.static y_Mo_in ∈ gg_L := gg_a2 209 rfl rfl
theorem wd_483 : Cond.code y_Mo_in c_Mo_in 2 (some .boolean) ∈ gg_L := gg_a2 210 rfl rfl
theorem wd_484 : Cond.methodLink r_La 26 y_Mo_tick ∈ gg_L := gg_a2 211 rfl rfl
theorem wd_485 : Cond.instanceMethod y_Mo_tick ∈ gg_L := gg_a2 212 rfl rfl
theorem wd_486 : Cond.selects r_Mo y_Mo_tick y_Mo_tick ∈ gg_L := gg_a2 213 rfl rfl
theorem wd_487 : Cond.code y_Mo_tick c_Mo_tick 2 (some .int) ∈ gg_L := gg_a2 214 rfl rfl
theorem wd_488 : Cond.constant r_Mo 207 (2147483647) ∈ gg_L := gg_a2 215 rfl rfl
theorem wd_489 : Cond.methodLink r_La 30 y_Mo_request ∈ gg_L := gg_a2 216 rfl rfl
theorem wd_490 : Cond.instanceMethod y_Mo_request ∈ gg_L := gg_a2 217 rfl rfl
theorem wd_491 : Cond.selects r_Mo y_Mo_request y_Mo_request ∈ gg_L := gg_a2 218 rfl rfl
theorem wd_492 : Cond.code y_Mo_request c_Mo_request 3 (some .int) ∈ gg_L := gg_a2 219 rfl rfl
theorem wd_493 : Cond.methodLink r_Mo 213 y_Mo_draws ∈ gg_L := gg_a2 220 rfl rfl
theorem wd_495 : Cond.instanceMethod y_Mo_draws ∈ gg_L := gg_a2 222 rfl rfl
theorem wd_496 : Cond.code y_Mo_draws c_Mo_draws 5 none ∈ gg_L := gg_a2 223 rfl rfl
theorem wd_497 : Cond.methodLink r_Mo 208 y_Mo_ofPool ∈ gg_L := gg_a2 224 rfl rfl
theorem wd_499 : Cond.instanceMethod y_Mo_ofPool ∈ gg_L := gg_a2 226 rfl rfl
theorem wd_500 : Cond.code y_Mo_ofPool c_Mo_ofPool 3 none ∈ gg_L := gg_a2 227 rfl rfl
theorem wd_501 : Cond.methodLink r_Mo 162 y_Mo_twice ∈ gg_L := gg_a2 228 rfl rfl
theorem wd_503 : Cond.instanceMethod y_Mo_twice ∈ gg_L := gg_a2 230 rfl rfl
theorem wd_504 : Cond.code y_Mo_twice c_Mo_twice 2 none ∈ gg_L := gg_a2 231 rfl rfl
theorem wd_505 : Cond.methodLink r_Mo 159 y_Mo_digests ∈ gg_L := gg_a2 232 rfl rfl
theorem wd_507 : Cond.instanceMethod y_Mo_digests ∈ gg_L := gg_a2 234 rfl rfl
theorem wd_508 : Cond.code y_Mo_digests c_Mo_digests 3 none ∈ gg_L := gg_a2 235 rfl rfl
theorem wd_509 : Cond.methodLink r_Mo 152 y_Mo_start ∈ gg_L := gg_a2 236 rfl rfl
theorem wd_510 : Cond.static y_Mo_start ∈ gg_L := gg_a2 237 rfl rfl
theorem wd_511 : Cond.code y_Mo_start c_Mo_start 1 (some .int) ∈ gg_L := gg_a2 238 rfl rfl
theorem wd_512 : Cond.constant r_Mo 130 (1779033703) ∈ gg_L := gg_a2 239 rfl rfl
theorem wd_513 : Cond.constant r_Mo 131 (-1150833019) ∈ gg_L := gg_a3 0 rfl rfl
theorem wd_514 : Cond.constant r_Mo 132 (1013904242) ∈ gg_L := gg_a3 1 rfl rfl
theorem wd_515 : Cond.constant r_Mo 133 (-1521486534) ∈ gg_L := gg_a3 2 rfl rfl
theorem wd_516 : Cond.constant r_Mo 134 (1359893119) ∈ gg_L := gg_a3 3 rfl rfl
theorem wd_517 : Cond.constant r_Mo 135 (-1694144372) ∈ gg_L := gg_a3 4 rfl rfl
theorem wd_518 : Cond.constant r_Mo 136 (528734635) ∈ gg_L := gg_a3 5 rfl rfl
theorem wd_519 : Cond.constant r_Mo 137 (1541459225) ∈ gg_L := gg_a3 6 rfl rfl
theorem wd_520 : Cond.methodLink r_Mo 155 y_Mo_round ∈ gg_L := gg_a3 7 rfl rfl
theorem wd_522 : Cond.instanceMethod y_Mo_round ∈ gg_L := gg_a3 9 rfl rfl
theorem wd_523 : Cond.code y_Mo_round c_Mo_round 14 none ∈ gg_L := gg_a3 10 rfl rfl
theorem wd_524 : Cond.methodLink r_Mo 141 y_Mo_padded ∈ gg_L := gg_a3 11 rfl rfl
theorem wd_526 : Cond.instanceMethod y_Mo_padded ∈ gg_L := gg_a3 13 rfl rfl
theorem wd_527 : Cond.code y_Mo_padded c_Mo_padded 4 (some .int) ∈ gg_L := gg_a3 14 rfl rfl
theorem wd_528 : Cond.methodLink r_Mo 145 y_Mo_right ∈ gg_L := gg_a3 15 rfl rfl
theorem wd_529 : Cond.static y_Mo_right ∈ gg_L := gg_a3 16 rfl rfl
theorem wd_530 : Cond.code y_Mo_right c_Mo_right 2 (some .int) ∈ gg_L := gg_a3 17 rfl rfl
theorem wd_531 : Cond.methodLink r_Mo 148 y_Mo_constant ∈ gg_L := gg_a3 18 rfl rfl
theorem wd_532 : Cond.static y_Mo_constant ∈ gg_L := gg_a3 19 rfl rfl
theorem wd_533 : Cond.code y_Mo_constant c_Mo_constant 1 (some .int) ∈ gg_L := gg_a3 20 rfl rfl
theorem wd_534 : Cond.constant r_Mo 66 (1116352408) ∈ gg_L := gg_a3 21 rfl rfl
theorem wd_535 : Cond.constant r_Mo 67 (1899447441) ∈ gg_L := gg_a3 22 rfl rfl
theorem wd_536 : Cond.constant r_Mo 68 (-1245643825) ∈ gg_L := gg_a3 23 rfl rfl
theorem wd_537 : Cond.constant r_Mo 69 (-373957723) ∈ gg_L := gg_a3 24 rfl rfl
theorem wd_538 : Cond.constant r_Mo 70 (961987163) ∈ gg_L := gg_a3 25 rfl rfl
theorem wd_539 : Cond.constant r_Mo 71 (1508970993) ∈ gg_L := gg_a3 26 rfl rfl
theorem wd_540 : Cond.constant r_Mo 72 (-1841331548) ∈ gg_L := gg_a3 27 rfl rfl
theorem wd_541 : Cond.constant r_Mo 73 (-1424204075) ∈ gg_L := gg_a3 28 rfl rfl
theorem wd_542 : Cond.constant r_Mo 74 (-670586216) ∈ gg_L := gg_a3 29 rfl rfl
theorem wd_543 : Cond.constant r_Mo 75 (310598401) ∈ gg_L := gg_a3 30 rfl rfl
theorem wd_544 : Cond.constant r_Mo 76 (607225278) ∈ gg_L := gg_a3 31 rfl rfl
theorem wd_545 : Cond.constant r_Mo 77 (1426881987) ∈ gg_L := gg_a3 32 rfl rfl
theorem wd_546 : Cond.constant r_Mo 78 (1925078388) ∈ gg_L := gg_a3 33 rfl rfl
theorem wd_547 : Cond.constant r_Mo 79 (-2132889090) ∈ gg_L := gg_a3 34 rfl rfl
theorem wd_548 : Cond.constant r_Mo 80 (-1680079193) ∈ gg_L := gg_a3 35 rfl rfl
theorem wd_549 : Cond.constant r_Mo 81 (-1046744716) ∈ gg_L := gg_a3 36 rfl rfl
theorem wd_550 : Cond.constant r_Mo 82 (-459576895) ∈ gg_L := gg_a3 37 rfl rfl
theorem wd_551 : Cond.constant r_Mo 83 (-272742522) ∈ gg_L := gg_a3 38 rfl rfl
theorem wd_552 : Cond.constant r_Mo 84 (264347078) ∈ gg_L := gg_a3 39 rfl rfl
theorem wd_553 : Cond.constant r_Mo 85 (604807628) ∈ gg_L := gg_a3 40 rfl rfl
theorem wd_554 : Cond.constant r_Mo 86 (770255983) ∈ gg_L := gg_a3 41 rfl rfl
theorem wd_555 : Cond.constant r_Mo 87 (1249150122) ∈ gg_L := gg_a3 42 rfl rfl
theorem wd_556 : Cond.constant r_Mo 88 (1555081692) ∈ gg_L := gg_a3 43 rfl rfl
theorem wd_557 : Cond.constant r_Mo 89 (1996064986) ∈ gg_L := gg_a3 44 rfl rfl
theorem wd_558 : Cond.constant r_Mo 90 (-1740746414) ∈ gg_L := gg_a3 45 rfl rfl
theorem wd_559 : Cond.constant r_Mo 91 (-1473132947) ∈ gg_L := gg_a3 46 rfl rfl
theorem wd_560 : Cond.constant r_Mo 92 (-1341970488) ∈ gg_L := gg_a3 47 rfl rfl
theorem wd_561 : Cond.constant r_Mo 93 (-1084653625) ∈ gg_L := gg_a3 48 rfl rfl
theorem wd_562 : Cond.constant r_Mo 94 (-958395405) ∈ gg_L := gg_a3 49 rfl rfl
theorem wd_563 : Cond.constant r_Mo 95 (-710438585) ∈ gg_L := gg_a3 50 rfl rfl
theorem wd_564 : Cond.constant r_Mo 96 (113926993) ∈ gg_L := gg_a3 51 rfl rfl
theorem wd_565 : Cond.constant r_Mo 97 (338241895) ∈ gg_L := gg_a3 52 rfl rfl
theorem wd_566 : Cond.constant r_Mo 98 (666307205) ∈ gg_L := gg_a3 53 rfl rfl
theorem wd_567 : Cond.constant r_Mo 99 (773529912) ∈ gg_L := gg_a3 54 rfl rfl
theorem wd_568 : Cond.constant r_Mo 100 (1294757372) ∈ gg_L := gg_a3 55 rfl rfl
theorem wd_569 : Cond.constant r_Mo 101 (1396182291) ∈ gg_L := gg_a3 56 rfl rfl
theorem wd_570 : Cond.constant r_Mo 102 (1695183700) ∈ gg_L := gg_a3 57 rfl rfl
theorem wd_571 : Cond.constant r_Mo 103 (1986661051) ∈ gg_L := gg_a3 58 rfl rfl
theorem wd_572 : Cond.constant r_Mo 104 (-2117940946) ∈ gg_L := gg_a3 59 rfl rfl
theorem wd_573 : Cond.constant r_Mo 105 (-1838011259) ∈ gg_L := gg_a3 60 rfl rfl
theorem wd_574 : Cond.constant r_Mo 106 (-1564481375) ∈ gg_L := gg_a3 61 rfl rfl
theorem wd_575 : Cond.constant r_Mo 107 (-1474664885) ∈ gg_L := gg_a3 62 rfl rfl
theorem wd_576 : Cond.constant r_Mo 108 (-1035236496) ∈ gg_L := gg_a3 63 rfl rfl
theorem wd_577 : Cond.constant r_Mo 109 (-949202525) ∈ gg_L := gg_a3 64 rfl rfl
theorem wd_578 : Cond.constant r_Mo 110 (-778901479) ∈ gg_L := gg_a3 65 rfl rfl
theorem wd_579 : Cond.constant r_Mo 111 (-694614492) ∈ gg_L := gg_a3 66 rfl rfl
theorem wd_580 : Cond.constant r_Mo 112 (-200395387) ∈ gg_L := gg_a3 67 rfl rfl
theorem wd_581 : Cond.constant r_Mo 113 (275423344) ∈ gg_L := gg_a3 68 rfl rfl
theorem wd_582 : Cond.constant r_Mo 114 (430227734) ∈ gg_L := gg_a3 69 rfl rfl
theorem wd_583 : Cond.constant r_Mo 115 (506948616) ∈ gg_L := gg_a3 70 rfl rfl
theorem wd_584 : Cond.constant r_Mo 116 (659060556) ∈ gg_L := gg_a3 71 rfl rfl
theorem wd_585 : Cond.constant r_Mo 117 (883997877) ∈ gg_L := gg_a3 72 rfl rfl
theorem wd_586 : Cond.constant r_Mo 118 (958139571) ∈ gg_L := gg_a3 73 rfl rfl
theorem wd_587 : Cond.constant r_Mo 119 (1322822218) ∈ gg_L := gg_a3 74 rfl rfl
theorem wd_588 : Cond.constant r_Mo 120 (1537002063) ∈ gg_L := gg_a3 75 rfl rfl
theorem wd_589 : Cond.constant r_Mo 121 (1747873779) ∈ gg_L := gg_a3 76 rfl rfl
theorem wd_590 : Cond.constant r_Mo 122 (1955562222) ∈ gg_L := gg_a3 77 rfl rfl
theorem wd_591 : Cond.constant r_Mo 123 (2024104815) ∈ gg_L := gg_a3 78 rfl rfl
theorem wd_592 : Cond.constant r_Mo 124 (-2067236844) ∈ gg_L := gg_a3 79 rfl rfl
theorem wd_593 : Cond.constant r_Mo 125 (-1933114872) ∈ gg_L := gg_a3 80 rfl rfl
theorem wd_594 : Cond.constant r_Mo 126 (-1866530822) ∈ gg_L := gg_a3 81 rfl rfl
theorem wd_595 : Cond.constant r_Mo 127 (-1538233109) ∈ gg_L := gg_a3 82 rfl rfl
theorem wd_596 : Cond.constant r_Mo 128 (-1090935817) ∈ gg_L := gg_a3 83 rfl rfl
theorem wd_597 : Cond.constant r_Mo 129 (-965641998) ∈ gg_L := gg_a3 84 rfl rfl
theorem wd_598 : Cond.methodLink r_Mo 211 y_Mo_reseeds ∈ gg_L := gg_a3 85 rfl rfl
theorem wd_600 : Cond.instanceMethod y_Mo_reseeds ∈ gg_L := gg_a3 87 rfl rfl
theorem wd_601 : Cond.code y_Mo_reseeds c_Mo_reseeds 3 none ∈ gg_L := gg_a3 88 rfl rfl
theorem wd_602 : Cond.methodLink r_Mo 181 y_Mo_counts ∈ gg_L := gg_a3 89 rfl rfl
theorem wd_604 : Cond.instanceMethod y_Mo_counts ∈ gg_L := gg_a3 91 rfl rfl
theorem wd_605 : Cond.code y_Mo_counts c_Mo_counts 2 none ∈ gg_L := gg_a3 92 rfl rfl
theorem wd_606 : Cond.methodLink r_Mo 216 y_Mo_isSeeded ∈ gg_L := gg_a3 93 rfl rfl
theorem wd_608 : Cond.instanceMethod y_Mo_isSeeded ∈ gg_L := gg_a3 95 rfl rfl
theorem wd_609 : Cond.code y_Mo_isSeeded c_Mo_isSeeded 3 (some .boolean) ∈ gg_L := gg_a3 96 rfl rfl
theorem wd_610 : Cond.methodLink r_Mo 220 y_Mo_generatesAll ∈ gg_L := gg_a3 97 rfl rfl
theorem wd_612 : Cond.instanceMethod y_Mo_generatesAll ∈ gg_L := gg_a3 99 rfl rfl
theorem wd_613 : Cond.code y_Mo_generatesAll c_Mo_generatesAll 4 none ∈ gg_L := gg_a3 100 rfl rfl
theorem wd_614 : Cond.methodLink r_Mo 184 y_Mo_generates ∈ gg_L := gg_a3 101 rfl rfl
theorem wd_616 : Cond.instanceMethod y_Mo_generates ∈ gg_L := gg_a3 103 rfl rfl
theorem wd_617 : Cond.code y_Mo_generates c_Mo_generates 7 none ∈ gg_L := gg_a3 104 rfl rfl
theorem wd_618 : Cond.methodLink r_Mo 178 y_Mo_schedules ∈ gg_L := gg_a3 105 rfl rfl
theorem wd_620 : Cond.instanceMethod y_Mo_schedules ∈ gg_L := gg_a3 107 rfl rfl
theorem wd_621 : Cond.code y_Mo_schedules c_Mo_schedules 6 none ∈ gg_L := gg_a3 108 rfl rfl
theorem wd_622 : Cond.methodLink r_Mo 175 y_Mo_s ∈ gg_L := gg_a3 109 rfl rfl
theorem wd_624 : Cond.instanceMethod y_Mo_s ∈ gg_L := gg_a3 111 rfl rfl
theorem wd_625 : Cond.code y_Mo_s c_Mo_s 3 (some .int) ∈ gg_L := gg_a3 112 rfl rfl
theorem wd_626 : Cond.methodLink r_Mo 172 y_Mo_turned ∈ gg_L := gg_a3 113 rfl rfl
theorem wd_627 : Cond.static y_Mo_turned ∈ gg_L := gg_a3 114 rfl rfl
theorem wd_628 : Cond.code y_Mo_turned c_Mo_turned 5 (some .int) ∈ gg_L := gg_a3 115 rfl rfl
theorem wd_629 : Cond.methodLink r_Mo 165 y_Mo_times ∈ gg_L := gg_a3 116 rfl rfl
theorem wd_630 : Cond.static y_Mo_times ∈ gg_L := gg_a3 117 rfl rfl
theorem wd_631 : Cond.code y_Mo_times c_Mo_times 5 (some .int) ∈ gg_L := gg_a3 118 rfl rfl
theorem wd_632 : Cond.methodLink r_La 34 y_Mo_out ∈ gg_L := gg_a3 119 rfl rfl
theorem wd_633 : Cond.instanceMethod y_Mo_out ∈ gg_L := gg_a3 120 rfl rfl
theorem wd_634 : Cond.selects r_Mo y_Mo_out y_Mo_out ∈ gg_L := gg_a3 121 rfl rfl
theorem wd_635 : Cond.code y_Mo_out c_Mo_out 2 (some .int) ∈ gg_L := gg_a3 122 rfl rfl
theorem wd_636 : Cond.methodLink r_La 39 y_Mo_save ∈ gg_L := gg_a3 123 rfl rfl
theorem wd_637 : Cond.instanceMethod y_Mo_save ∈ gg_L := gg_a3 124 rfl rfl
theorem wd_638 : Cond.selects r_Mo y_Mo_save y_Mo_save ∈ gg_L := gg_a3 125 rfl rfl
theorem wd_639 : Cond.code y_Mo_save c_Mo_save 1 (some .int) ∈ gg_L := gg_a3 126 rfl rfl
theorem wd_640 : Cond.methodLink r_Mo 228 y_Mo_saves ∈ gg_L := gg_a3 127 rfl rfl
theorem wd_642 : Cond.instanceMethod y_Mo_saves ∈ gg_L := gg_a3 129 rfl rfl
theorem wd_643 : Cond.code y_Mo_saves c_Mo_saves 3 (some .int) ∈ gg_L := gg_a3 130 rfl rfl
theorem wd_644 : Cond.methodLink r_Mo 226 y_Mo_writes ∈ gg_L := gg_a3 131 rfl rfl
theorem wd_646 : Cond.instanceMethod y_Mo_writes ∈ gg_L := gg_a3 133 rfl rfl
theorem wd_647 : Cond.code y_Mo_writes c_Mo_writes 3 (some .boolean) ∈ gg_L := gg_a3 134 rfl rfl
theorem wd_648 : Cond.methodLink r_La 43 y_Mo_load ∈ gg_L := gg_a3 135 rfl rfl
theorem wd_649 : Cond.instanceMethod y_Mo_load ∈ gg_L := gg_a3 136 rfl rfl
theorem wd_650 : Cond.selects r_Mo y_Mo_load y_Mo_load ∈ gg_L := gg_a3 137 rfl rfl
theorem wd_651 : Cond.code y_Mo_load c_Mo_load 2 (some .int) ∈ gg_L := gg_a3 138 rfl rfl
theorem wd_652 : Cond.methodLink r_La 48 y_Mo_crash ∈ gg_L := gg_a3 139 rfl rfl
theorem wd_653 : Cond.instanceMethod y_Mo_crash ∈ gg_L := gg_a3 140 rfl rfl
theorem wd_654 : Cond.selects r_Mo y_Mo_crash y_Mo_crash ∈ gg_L := gg_a3 141 rfl rfl
theorem wd_655 : Cond.code y_Mo_crash c_Mo_crash 2 none ∈ gg_L := gg_a3 142 rfl rfl
theorem wd_656 : Cond.methodLink r_La 53 y_Mo_byteOf ∈ gg_L := gg_a3 143 rfl rfl
theorem wd_657 : Cond.instanceMethod y_Mo_byteOf ∈ gg_L := gg_a3 144 rfl rfl
theorem wd_658 : Cond.selects r_Mo y_Mo_byteOf y_Mo_byteOf ∈ gg_L := gg_a3 145 rfl rfl
theorem wd_659 : Cond.code y_Mo_byteOf c_Mo_byteOf 3 (some .int) ∈ gg_L := gg_a3 146 rfl rfl
theorem wd_660 : Cond.methodLink r_La 58 y_Mo_spoil ∈ gg_L := gg_a3 147 rfl rfl
theorem wd_661 : Cond.instanceMethod y_Mo_spoil ∈ gg_L := gg_a3 148 rfl rfl
theorem wd_662 : Cond.selects r_Mo y_Mo_spoil y_Mo_spoil ∈ gg_L := gg_a3 149 rfl rfl
theorem wd_663 : Cond.code y_Mo_spoil c_Mo_spoil 3 (some .boolean) ∈ gg_L := gg_a3 150 rfl rfl
theorem wd_664 : Cond.methodLink r_La 62 y_Mo_about ∈ gg_L := gg_a3 151 rfl rfl
theorem wd_665 : Cond.instanceMethod y_Mo_about ∈ gg_L := gg_a3 152 rfl rfl
theorem wd_666 : Cond.selects r_Mo y_Mo_about y_Mo_about ∈ gg_L := gg_a3 153 rfl rfl
theorem wd_667 : Cond.code y_Mo_about c_Mo_about 2 (some .int) ∈ gg_L := gg_a3 154 rfl rfl
theorem i_Ci : ∀ w ∈ u_ws r_Ci f_Ci 3, w ∈ gg_L := by
  intro w hw
  obtain ⟨k, hk, rfl⟩ := List.mem_map.mp hw
  have hk := List.mem_range.mp hk
  rcases Nat.lt_or_ge k 1 with h0 | h0
  · obtain rfl : k = 0 := by omega
    exact wd_102
  rcases Nat.lt_or_ge k 2 with h1 | h1
  · obtain rfl : k = 1 := by omega
    exact wd_104
  obtain rfl : k = 2 := by omega
  exact wd_106
theorem i_Dg : ∀ w ∈ u_ws r_Dg f_Dg 3, w ∈ gg_L := by
  intro w hw
  obtain ⟨k, hk, rfl⟩ := List.mem_map.mp hw
  have hk := List.mem_range.mp hk
  rcases Nat.lt_or_ge k 1 with h0 | h0
  · obtain rfl : k = 0 := by omega
    exact wd_86
  rcases Nat.lt_or_ge k 2 with h1 | h1
  · obtain rfl : k = 1 := by omega
    exact wd_88
  obtain rfl : k = 2 := by omega
  exact wd_90
theorem i_Dk : ∀ w ∈ u_ws r_Dk f_Dk 3, w ∈ gg_L := by
  intro w hw
  obtain ⟨k, hk, rfl⟩ := List.mem_map.mp hw
  have hk := List.mem_range.mp hk
  rcases Nat.lt_or_ge k 1 with h0 | h0
  · obtain rfl : k = 0 := by omega
    exact wd_158
  rcases Nat.lt_or_ge k 2 with h1 | h1
  · obtain rfl : k = 1 := by omega
    exact wd_160
  obtain rfl : k = 2 := by omega
  exact wd_162
theorem i_Ge : ∀ w ∈ u_ws r_Ge f_Ge 10, w ∈ gg_L := by
  intro w hw
  obtain ⟨k, hk, rfl⟩ := List.mem_map.mp hw
  have hk := List.mem_range.mp hk
  rcases Nat.lt_or_ge k 1 with h0 | h0
  · obtain rfl : k = 0 := by omega
    exact wd_125
  rcases Nat.lt_or_ge k 2 with h1 | h1
  · obtain rfl : k = 1 := by omega
    exact wd_127
  rcases Nat.lt_or_ge k 3 with h2 | h2
  · obtain rfl : k = 2 := by omega
    exact wd_129
  rcases Nat.lt_or_ge k 4 with h3 | h3
  · obtain rfl : k = 3 := by omega
    exact wd_131
  rcases Nat.lt_or_ge k 5 with h4 | h4
  · obtain rfl : k = 4 := by omega
    exact wd_133
  rcases Nat.lt_or_ge k 6 with h5 | h5
  · obtain rfl : k = 5 := by omega
    exact wd_135
  rcases Nat.lt_or_ge k 7 with h6 | h6
  · obtain rfl : k = 6 := by omega
    exact wd_137
  rcases Nat.lt_or_ge k 8 with h7 | h7
  · obtain rfl : k = 7 := by omega
    exact wd_139
  rcases Nat.lt_or_ge k 9 with h8 | h8
  · obtain rfl : k = 8 := by omega
    exact wd_141
  obtain rfl : k = 9 := by omega
  exact wd_143
theorem i_Po : ∀ w ∈ u_ws r_Po f_Po 2, w ∈ gg_L := by
  intro w hw
  obtain ⟨k, hk, rfl⟩ := List.mem_map.mp hw
  have hk := List.mem_range.mp hk
  rcases Nat.lt_or_ge k 1 with h0 | h0
  · obtain rfl : k = 0 := by omega
    exact wd_69
  obtain rfl : k = 1 := by omega
  exact wd_71
theorem i_Pd : ∀ w ∈ u_ws r_Pd f_Pd 5, w ∈ gg_L := by
  intro w hw
  obtain ⟨k, hk, rfl⟩ := List.mem_map.mp hw
  have hk := List.mem_range.mp hk
  rcases Nat.lt_or_ge k 1 with h0 | h0
  · obtain rfl : k = 0 := by omega
    exact wd_170
  rcases Nat.lt_or_ge k 2 with h1 | h1
  · obtain rfl : k = 1 := by omega
    exact wd_172
  rcases Nat.lt_or_ge k 3 with h2 | h2
  · obtain rfl : k = 2 := by omega
    exact wd_174
  rcases Nat.lt_or_ge k 4 with h3 | h3
  · obtain rfl : k = 3 := by omega
    exact wd_176
  obtain rfl : k = 4 := by omega
  exact wd_178
theorem i_Mo : ∀ w ∈ u_ws r_Mo f_Mo 25, w ∈ gg_L := by
  intro w hw
  obtain ⟨k, hk, rfl⟩ := List.mem_map.mp hw
  have hk := List.mem_range.mp hk
  rcases Nat.lt_or_ge k 1 with h0 | h0
  · obtain rfl : k = 0 := by omega
    exact wd_418
  rcases Nat.lt_or_ge k 2 with h1 | h1
  · obtain rfl : k = 1 := by omega
    exact wd_420
  rcases Nat.lt_or_ge k 3 with h2 | h2
  · obtain rfl : k = 2 := by omega
    exact wd_422
  rcases Nat.lt_or_ge k 4 with h3 | h3
  · obtain rfl : k = 3 := by omega
    exact wd_424
  rcases Nat.lt_or_ge k 5 with h4 | h4
  · obtain rfl : k = 4 := by omega
    exact wd_426
  rcases Nat.lt_or_ge k 6 with h5 | h5
  · obtain rfl : k = 5 := by omega
    exact wd_428
  rcases Nat.lt_or_ge k 7 with h6 | h6
  · obtain rfl : k = 6 := by omega
    exact wd_430
  rcases Nat.lt_or_ge k 8 with h7 | h7
  · obtain rfl : k = 7 := by omega
    exact wd_432
  rcases Nat.lt_or_ge k 9 with h8 | h8
  · obtain rfl : k = 8 := by omega
    exact wd_434
  rcases Nat.lt_or_ge k 10 with h9 | h9
  · obtain rfl : k = 9 := by omega
    exact wd_436
  rcases Nat.lt_or_ge k 11 with h10 | h10
  · obtain rfl : k = 10 := by omega
    exact wd_438
  rcases Nat.lt_or_ge k 12 with h11 | h11
  · obtain rfl : k = 11 := by omega
    exact wd_440
  rcases Nat.lt_or_ge k 13 with h12 | h12
  · obtain rfl : k = 12 := by omega
    exact wd_442
  rcases Nat.lt_or_ge k 14 with h13 | h13
  · obtain rfl : k = 13 := by omega
    exact wd_444
  rcases Nat.lt_or_ge k 15 with h14 | h14
  · obtain rfl : k = 14 := by omega
    exact wd_446
  rcases Nat.lt_or_ge k 16 with h15 | h15
  · obtain rfl : k = 15 := by omega
    exact wd_448
  rcases Nat.lt_or_ge k 17 with h16 | h16
  · obtain rfl : k = 16 := by omega
    exact wd_450
  rcases Nat.lt_or_ge k 18 with h17 | h17
  · obtain rfl : k = 17 := by omega
    exact wd_452
  rcases Nat.lt_or_ge k 19 with h18 | h18
  · obtain rfl : k = 18 := by omega
    exact wd_454
  rcases Nat.lt_or_ge k 20 with h19 | h19
  · obtain rfl : k = 19 := by omega
    exact wd_456
  rcases Nat.lt_or_ge k 21 with h20 | h20
  · obtain rfl : k = 20 := by omega
    exact wd_458
  rcases Nat.lt_or_ge k 22 with h21 | h21
  · obtain rfl : k = 21 := by omega
    exact wd_460
  rcases Nat.lt_or_ge k 23 with h22 | h22
  · obtain rfl : k = 22 := by omega
    exact wd_462
  rcases Nat.lt_or_ge k 24 with h23 | h23
  · obtain rfl : k = 23 := by omega
    exact wd_464
  obtain rfl : k = 24 := by omega
  exact wd_466
end
section
theorem d_Ci_new_0 : decode c_Ci_new 0 = .ok (.aload_n 0, 1) := by decide +kernel
theorem d_Ci_new_1 : decode c_Ci_new 1 = .ok (.invokespecial 1, 3) := by decide +kernel
theorem d_Ci_new_4 : decode c_Ci_new 4 = .ok (.aload_n 0, 1) := by decide +kernel
theorem d_Ci_new_5 : decode c_Ci_new 5 = .ok (.sipush 176, 3) := by decide +kernel
theorem d_Ci_new_8 : decode c_Ci_new 8 = .ok (.newarray .int, 2) := by decide +kernel
theorem d_Ci_new_10 : decode c_Ci_new 10 = .ok (.putfield 9, 3) := by decide +kernel
theorem d_Ci_new_13 : decode c_Ci_new 13 = .ok (.aload_n 0, 1) := by decide +kernel
theorem d_Ci_new_14 : decode c_Ci_new 14 = .ok (.bipush 16, 2) := by decide +kernel
theorem d_Ci_new_16 : decode c_Ci_new 16 = .ok (.newarray .int, 2) := by decide +kernel
theorem d_Ci_new_18 : decode c_Ci_new 18 = .ok (.putfield 13, 3) := by decide +kernel
theorem d_Ci_new_21 : decode c_Ci_new 21 = .ok (.aload_n 0, 1) := by decide +kernel
theorem d_Ci_new_22 : decode c_Ci_new 22 = .ok (.bipush 16, 2) := by decide +kernel
theorem d_Ci_new_24 : decode c_Ci_new 24 = .ok (.newarray .int, 2) := by decide +kernel
theorem d_Ci_new_26 : decode c_Ci_new 26 = .ok (.putfield 16, 3) := by decide +kernel
theorem d_Ci_new_29 : decode c_Ci_new 29 = .ok (.return_, 1) := by decide +kernel
theorem d_Ci_takeKey_0 : decode c_Ci_takeKey 0 = .ok (.aload_n 1, 1) := by decide +kernel
theorem d_Ci_takeKey_1 : decode c_Ci_takeKey 1 = .ok (.iconst 0, 1) := by decide +kernel
theorem d_Ci_takeKey_2 : decode c_Ci_takeKey 2 = .ok (.aload_n 0, 1) := by decide +kernel
theorem d_Ci_takeKey_3 : decode c_Ci_takeKey 3 = .ok (.getfield 9, 3) := by decide +kernel
theorem d_Ci_takeKey_6 : decode c_Ci_takeKey 6 = .ok (.iconst 0, 1) := by decide +kernel
theorem d_Ci_takeKey_7 : decode c_Ci_takeKey 7 = .ok (.bipush 16, 2) := by decide +kernel
theorem d_Ci_takeKey_9 : decode c_Ci_takeKey 9 = .ok (.invokestatic 19, 3) := by decide +kernel
theorem d_Ci_takeKey_12 : decode c_Ci_takeKey 12 = .ok (.iconst 1, 1) := by decide +kernel
theorem d_Ci_takeKey_13 : decode c_Ci_takeKey 13 = .ok (.istore_n 2, 1) := by decide +kernel
theorem d_Ci_takeKey_14 : decode c_Ci_takeKey 14 = .ok (.bipush 16, 2) := by decide +kernel
theorem d_Ci_takeKey_16 : decode c_Ci_takeKey 16 = .ok (.istore_n 3, 1) := by decide +kernel
theorem d_Ci_takeKey_17 : decode c_Ci_takeKey 17 = .ok (.iload_n 3, 1) := by decide +kernel
theorem d_Ci_takeKey_18 : decode c_Ci_takeKey 18 = .ok (.aload_n 0, 1) := by decide +kernel
theorem d_Ci_takeKey_19 : decode c_Ci_takeKey 19 = .ok (.getfield 9, 3) := by decide +kernel
theorem d_Ci_takeKey_22 : decode c_Ci_takeKey 22 = .ok (.arraylength, 1) := by decide +kernel
theorem d_Ci_takeKey_23 : decode c_Ci_takeKey 23 = .ok (.if_icmp .ge 67, 3) := by decide +kernel
theorem d_Ci_takeKey_26 : decode c_Ci_takeKey 26 = .ok (.aload_n 0, 1) := by decide +kernel
theorem d_Ci_takeKey_27 : decode c_Ci_takeKey 27 = .ok (.iload_n 3, 1) := by decide +kernel
theorem d_Ci_takeKey_28 : decode c_Ci_takeKey 28 = .ok (.iload_n 2, 1) := by decide +kernel
theorem d_Ci_takeKey_29 : decode c_Ci_takeKey 29 = .ok (.invokevirtual 25, 3) := by decide +kernel
theorem d_Ci_takeKey_32 : decode c_Ci_takeKey 32 = .ok (.iload_n 3, 1) := by decide +kernel
theorem d_Ci_takeKey_33 : decode c_Ci_takeKey 33 = .ok (.iconst 4, 1) := by decide +kernel
theorem d_Ci_takeKey_34 : decode c_Ci_takeKey 34 = .ok (.iadd, 1) := by decide +kernel
theorem d_Ci_takeKey_35 : decode c_Ci_takeKey 35 = .ok (.istore 4, 2) := by decide +kernel
theorem d_Ci_takeKey_37 : decode c_Ci_takeKey 37 = .ok (.iload 4, 2) := by decide +kernel
theorem d_Ci_takeKey_39 : decode c_Ci_takeKey 39 = .ok (.iload_n 3, 1) := by decide +kernel
theorem d_Ci_takeKey_40 : decode c_Ci_takeKey 40 = .ok (.bipush 16, 2) := by decide +kernel
theorem d_Ci_takeKey_42 : decode c_Ci_takeKey 42 = .ok (.iadd, 1) := by decide +kernel
theorem d_Ci_takeKey_43 : decode c_Ci_takeKey 43 = .ok (.if_icmp .ge 36, 3) := by decide +kernel
theorem d_Ci_takeKey_46 : decode c_Ci_takeKey 46 = .ok (.aload_n 0, 1) := by decide +kernel
theorem d_Ci_takeKey_47 : decode c_Ci_takeKey 47 = .ok (.getfield 9, 3) := by decide +kernel
theorem d_Ci_takeKey_50 : decode c_Ci_takeKey 50 = .ok (.iload 4, 2) := by decide +kernel
theorem d_Ci_takeKey_52 : decode c_Ci_takeKey 52 = .ok (.aload_n 0, 1) := by decide +kernel
theorem d_Ci_takeKey_53 : decode c_Ci_takeKey 53 = .ok (.getfield 9, 3) := by decide +kernel
theorem d_Ci_takeKey_56 : decode c_Ci_takeKey 56 = .ok (.iload 4, 2) := by decide +kernel
theorem d_Ci_takeKey_58 : decode c_Ci_takeKey 58 = .ok (.bipush 16, 2) := by decide +kernel
theorem d_Ci_takeKey_60 : decode c_Ci_takeKey 60 = .ok (.isub, 1) := by decide +kernel
theorem d_Ci_takeKey_61 : decode c_Ci_takeKey 61 = .ok (.iaload, 1) := by decide +kernel
theorem d_Ci_takeKey_62 : decode c_Ci_takeKey 62 = .ok (.aload_n 0, 1) := by decide +kernel
theorem d_Ci_takeKey_63 : decode c_Ci_takeKey 63 = .ok (.getfield 9, 3) := by decide +kernel
theorem d_Ci_takeKey_66 : decode c_Ci_takeKey 66 = .ok (.iload 4, 2) := by decide +kernel
theorem d_Ci_takeKey_68 : decode c_Ci_takeKey 68 = .ok (.iconst 4, 1) := by decide +kernel
theorem d_Ci_takeKey_69 : decode c_Ci_takeKey 69 = .ok (.isub, 1) := by decide +kernel
theorem d_Ci_takeKey_70 : decode c_Ci_takeKey 70 = .ok (.iaload, 1) := by decide +kernel
theorem d_Ci_takeKey_71 : decode c_Ci_takeKey 71 = .ok (.ixor, 1) := by decide +kernel
theorem d_Ci_takeKey_72 : decode c_Ci_takeKey 72 = .ok (.iastore, 1) := by decide +kernel
theorem d_Ci_takeKey_73 : decode c_Ci_takeKey 73 = .ok (.iinc 4 1, 3) := by decide +kernel
theorem d_Ci_takeKey_76 : decode c_Ci_takeKey 76 = .ok (.goto (-39), 3) := by decide +kernel
theorem d_Ci_takeKey_79 : decode c_Ci_takeKey 79 = .ok (.iload_n 2, 1) := by decide +kernel
theorem d_Ci_takeKey_80 : decode c_Ci_takeKey 80 = .ok (.invokestatic 29, 3) := by decide +kernel
theorem d_Ci_takeKey_83 : decode c_Ci_takeKey 83 = .ok (.istore_n 2, 1) := by decide +kernel
theorem d_Ci_takeKey_84 : decode c_Ci_takeKey 84 = .ok (.iinc 3 16, 3) := by decide +kernel
theorem d_Ci_takeKey_87 : decode c_Ci_takeKey 87 = .ok (.goto (-70), 3) := by decide +kernel
theorem d_Ci_takeKey_90 : decode c_Ci_takeKey 90 = .ok (.return_, 1) := by decide +kernel
theorem d_Ci_makeTurnedWord_0 : decode c_Ci_makeTurnedWord 0 = .ok (.iconst 0, 1) := by decide +kernel
theorem d_Ci_makeTurnedWord_1 : decode c_Ci_makeTurnedWord 1 = .ok (.istore_n 3, 1) := by decide +kernel
theorem d_Ci_makeTurnedWord_2 : decode c_Ci_makeTurnedWord 2 = .ok (.iload_n 3, 1) := by decide +kernel
theorem d_Ci_makeTurnedWord_3 : decode c_Ci_makeTurnedWord 3 = .ok (.iconst 4, 1) := by decide +kernel
theorem d_Ci_makeTurnedWord_4 : decode c_Ci_makeTurnedWord 4 = .ok (.if_icmp .ge 51, 3) := by decide +kernel
theorem d_Ci_makeTurnedWord_7 : decode c_Ci_makeTurnedWord 7 = .ok (.getstatic 33, 3) := by decide +kernel
theorem d_Ci_makeTurnedWord_10 : decode c_Ci_makeTurnedWord 10 = .ok (.aload_n 0, 1) := by decide +kernel
theorem d_Ci_makeTurnedWord_11 : decode c_Ci_makeTurnedWord 11 = .ok (.getfield 9, 3) := by decide +kernel
theorem d_Ci_makeTurnedWord_14 : decode c_Ci_makeTurnedWord 14 = .ok (.iload_n 1, 1) := by decide +kernel
theorem d_Ci_makeTurnedWord_15 : decode c_Ci_makeTurnedWord 15 = .ok (.iconst 4, 1) := by decide +kernel
theorem d_Ci_makeTurnedWord_16 : decode c_Ci_makeTurnedWord 16 = .ok (.isub, 1) := by decide +kernel
theorem d_Ci_makeTurnedWord_17 : decode c_Ci_makeTurnedWord 17 = .ok (.iload_n 3, 1) := by decide +kernel
theorem d_Ci_makeTurnedWord_18 : decode c_Ci_makeTurnedWord 18 = .ok (.iconst 1, 1) := by decide +kernel
theorem d_Ci_makeTurnedWord_19 : decode c_Ci_makeTurnedWord 19 = .ok (.iadd, 1) := by decide +kernel
theorem d_Ci_makeTurnedWord_20 : decode c_Ci_makeTurnedWord 20 = .ok (.iconst 4, 1) := by decide +kernel
theorem d_Ci_makeTurnedWord_21 : decode c_Ci_makeTurnedWord 21 = .ok (.irem, 1) := by decide +kernel
theorem d_Ci_makeTurnedWord_22 : decode c_Ci_makeTurnedWord 22 = .ok (.iadd, 1) := by decide +kernel
theorem d_Ci_makeTurnedWord_23 : decode c_Ci_makeTurnedWord 23 = .ok (.iaload, 1) := by decide +kernel
theorem d_Ci_makeTurnedWord_24 : decode c_Ci_makeTurnedWord 24 = .ok (.iaload, 1) := by decide +kernel
theorem d_Ci_makeTurnedWord_25 : decode c_Ci_makeTurnedWord 25 = .ok (.istore 4, 2) := by decide +kernel
theorem d_Ci_makeTurnedWord_27 : decode c_Ci_makeTurnedWord 27 = .ok (.aload_n 0, 1) := by decide +kernel
theorem d_Ci_makeTurnedWord_28 : decode c_Ci_makeTurnedWord 28 = .ok (.getfield 9, 3) := by decide +kernel
theorem d_Ci_makeTurnedWord_31 : decode c_Ci_makeTurnedWord 31 = .ok (.iload_n 1, 1) := by decide +kernel
theorem d_Ci_makeTurnedWord_32 : decode c_Ci_makeTurnedWord 32 = .ok (.iload_n 3, 1) := by decide +kernel
theorem d_Ci_makeTurnedWord_33 : decode c_Ci_makeTurnedWord 33 = .ok (.iadd, 1) := by decide +kernel
theorem d_Ci_makeTurnedWord_34 : decode c_Ci_makeTurnedWord 34 = .ok (.aload_n 0, 1) := by decide +kernel
theorem d_Ci_makeTurnedWord_35 : decode c_Ci_makeTurnedWord 35 = .ok (.getfield 9, 3) := by decide +kernel
theorem d_Ci_makeTurnedWord_38 : decode c_Ci_makeTurnedWord 38 = .ok (.iload_n 1, 1) := by decide +kernel
theorem d_Ci_makeTurnedWord_39 : decode c_Ci_makeTurnedWord 39 = .ok (.bipush 16, 2) := by decide +kernel
theorem d_Ci_makeTurnedWord_41 : decode c_Ci_makeTurnedWord 41 = .ok (.isub, 1) := by decide +kernel
theorem d_Ci_makeTurnedWord_42 : decode c_Ci_makeTurnedWord 42 = .ok (.iload_n 3, 1) := by decide +kernel
theorem d_Ci_makeTurnedWord_43 : decode c_Ci_makeTurnedWord 43 = .ok (.iadd, 1) := by decide +kernel
theorem d_Ci_makeTurnedWord_44 : decode c_Ci_makeTurnedWord 44 = .ok (.iaload, 1) := by decide +kernel
theorem d_Ci_makeTurnedWord_45 : decode c_Ci_makeTurnedWord 45 = .ok (.iload 4, 2) := by decide +kernel
theorem d_Ci_makeTurnedWord_47 : decode c_Ci_makeTurnedWord 47 = .ok (.ixor, 1) := by decide +kernel
theorem d_Ci_makeTurnedWord_48 : decode c_Ci_makeTurnedWord 48 = .ok (.iastore, 1) := by decide +kernel
theorem d_Ci_makeTurnedWord_49 : decode c_Ci_makeTurnedWord 49 = .ok (.iinc 3 1, 3) := by decide +kernel
theorem d_Ci_makeTurnedWord_52 : decode c_Ci_makeTurnedWord 52 = .ok (.goto (-50), 3) := by decide +kernel
theorem d_Ci_makeTurnedWord_55 : decode c_Ci_makeTurnedWord 55 = .ok (.aload_n 0, 1) := by decide +kernel
theorem d_Ci_makeTurnedWord_56 : decode c_Ci_makeTurnedWord 56 = .ok (.getfield 9, 3) := by decide +kernel
theorem d_Ci_makeTurnedWord_59 : decode c_Ci_makeTurnedWord 59 = .ok (.iload_n 1, 1) := by decide +kernel
theorem d_Ci_makeTurnedWord_60 : decode c_Ci_makeTurnedWord 60 = .ok (.dup2, 1) := by decide +kernel
theorem d_Ci_makeTurnedWord_61 : decode c_Ci_makeTurnedWord 61 = .ok (.iaload, 1) := by decide +kernel
theorem d_Ci_makeTurnedWord_62 : decode c_Ci_makeTurnedWord 62 = .ok (.iload_n 2, 1) := by decide +kernel
theorem d_Ci_makeTurnedWord_63 : decode c_Ci_makeTurnedWord 63 = .ok (.ixor, 1) := by decide +kernel
theorem d_Ci_makeTurnedWord_64 : decode c_Ci_makeTurnedWord 64 = .ok (.iastore, 1) := by decide +kernel
theorem d_Ci_makeTurnedWord_65 : decode c_Ci_makeTurnedWord 65 = .ok (.return_, 1) := by decide +kernel
theorem d_Ci_encrypt_0 : decode c_Ci_encrypt 0 = .ok (.aload_n 1, 1) := by decide +kernel
theorem d_Ci_encrypt_1 : decode c_Ci_encrypt 1 = .ok (.iconst 0, 1) := by decide +kernel
theorem d_Ci_encrypt_2 : decode c_Ci_encrypt 2 = .ok (.aload_n 0, 1) := by decide +kernel
theorem d_Ci_encrypt_3 : decode c_Ci_encrypt 3 = .ok (.getfield 13, 3) := by decide +kernel
theorem d_Ci_encrypt_6 : decode c_Ci_encrypt 6 = .ok (.iconst 0, 1) := by decide +kernel
theorem d_Ci_encrypt_7 : decode c_Ci_encrypt 7 = .ok (.bipush 16, 2) := by decide +kernel
theorem d_Ci_encrypt_9 : decode c_Ci_encrypt 9 = .ok (.invokestatic 19, 3) := by decide +kernel
theorem d_Ci_encrypt_12 : decode c_Ci_encrypt 12 = .ok (.aload_n 0, 1) := by decide +kernel
theorem d_Ci_encrypt_13 : decode c_Ci_encrypt 13 = .ok (.iconst 0, 1) := by decide +kernel
theorem d_Ci_encrypt_14 : decode c_Ci_encrypt 14 = .ok (.invokevirtual 36, 3) := by decide +kernel
theorem d_Ci_encrypt_17 : decode c_Ci_encrypt 17 = .ok (.iconst 1, 1) := by decide +kernel
theorem d_Ci_encrypt_18 : decode c_Ci_encrypt 18 = .ok (.istore 4, 2) := by decide +kernel
theorem d_Ci_encrypt_20 : decode c_Ci_encrypt 20 = .ok (.iload 4, 2) := by decide +kernel
theorem d_Ci_encrypt_22 : decode c_Ci_encrypt 22 = .ok (.bipush 10, 2) := by decide +kernel
theorem d_Ci_encrypt_24 : decode c_Ci_encrypt 24 = .ok (.if_icmp .gt 30, 3) := by decide +kernel
theorem d_Ci_encrypt_27 : decode c_Ci_encrypt 27 = .ok (.aload_n 0, 1) := by decide +kernel
theorem d_Ci_encrypt_28 : decode c_Ci_encrypt 28 = .ok (.invokevirtual 40, 3) := by decide +kernel
theorem d_Ci_encrypt_31 : decode c_Ci_encrypt 31 = .ok (.iload 4, 2) := by decide +kernel
theorem d_Ci_encrypt_33 : decode c_Ci_encrypt 33 = .ok (.bipush 10, 2) := by decide +kernel
theorem d_Ci_encrypt_35 : decode c_Ci_encrypt 35 = .ok (.if_icmp .ge 7, 3) := by decide +kernel
theorem d_Ci_encrypt_38 : decode c_Ci_encrypt 38 = .ok (.aload_n 0, 1) := by decide +kernel
theorem d_Ci_encrypt_39 : decode c_Ci_encrypt 39 = .ok (.invokevirtual 43, 3) := by decide +kernel
theorem d_Ci_encrypt_42 : decode c_Ci_encrypt 42 = .ok (.aload_n 0, 1) := by decide +kernel
theorem d_Ci_encrypt_43 : decode c_Ci_encrypt 43 = .ok (.iload 4, 2) := by decide +kernel
theorem d_Ci_encrypt_45 : decode c_Ci_encrypt 45 = .ok (.invokevirtual 36, 3) := by decide +kernel
theorem d_Ci_encrypt_48 : decode c_Ci_encrypt 48 = .ok (.iinc 4 1, 3) := by decide +kernel
theorem d_Ci_encrypt_51 : decode c_Ci_encrypt 51 = .ok (.goto (-31), 3) := by decide +kernel
theorem d_Ci_encrypt_54 : decode c_Ci_encrypt 54 = .ok (.aload_n 0, 1) := by decide +kernel
theorem d_Ci_encrypt_55 : decode c_Ci_encrypt 55 = .ok (.getfield 13, 3) := by decide +kernel
theorem d_Ci_encrypt_58 : decode c_Ci_encrypt 58 = .ok (.iconst 0, 1) := by decide +kernel
theorem d_Ci_encrypt_59 : decode c_Ci_encrypt 59 = .ok (.aload_n 2, 1) := by decide +kernel
theorem d_Ci_encrypt_60 : decode c_Ci_encrypt 60 = .ok (.iload_n 3, 1) := by decide +kernel
theorem d_Ci_encrypt_61 : decode c_Ci_encrypt 61 = .ok (.bipush 16, 2) := by decide +kernel
theorem d_Ci_encrypt_63 : decode c_Ci_encrypt 63 = .ok (.invokestatic 19, 3) := by decide +kernel
theorem d_Ci_encrypt_66 : decode c_Ci_encrypt 66 = .ok (.return_, 1) := by decide +kernel
theorem d_Ci_addRoundKey_0 : decode c_Ci_addRoundKey 0 = .ok (.iconst 0, 1) := by decide +kernel
theorem d_Ci_addRoundKey_1 : decode c_Ci_addRoundKey 1 = .ok (.istore_n 2, 1) := by decide +kernel
theorem d_Ci_addRoundKey_2 : decode c_Ci_addRoundKey 2 = .ok (.iload_n 2, 1) := by decide +kernel
theorem d_Ci_addRoundKey_3 : decode c_Ci_addRoundKey 3 = .ok (.bipush 16, 2) := by decide +kernel
theorem d_Ci_addRoundKey_5 : decode c_Ci_addRoundKey 5 = .ok (.if_icmp .ge 29, 3) := by decide +kernel
theorem d_Ci_addRoundKey_8 : decode c_Ci_addRoundKey 8 = .ok (.aload_n 0, 1) := by decide +kernel
theorem d_Ci_addRoundKey_9 : decode c_Ci_addRoundKey 9 = .ok (.getfield 13, 3) := by decide +kernel
theorem d_Ci_addRoundKey_12 : decode c_Ci_addRoundKey 12 = .ok (.iload_n 2, 1) := by decide +kernel
theorem d_Ci_addRoundKey_13 : decode c_Ci_addRoundKey 13 = .ok (.dup2, 1) := by decide +kernel
theorem d_Ci_addRoundKey_14 : decode c_Ci_addRoundKey 14 = .ok (.iaload, 1) := by decide +kernel
theorem d_Ci_addRoundKey_15 : decode c_Ci_addRoundKey 15 = .ok (.aload_n 0, 1) := by decide +kernel
theorem d_Ci_addRoundKey_16 : decode c_Ci_addRoundKey 16 = .ok (.getfield 9, 3) := by decide +kernel
theorem d_Ci_addRoundKey_19 : decode c_Ci_addRoundKey 19 = .ok (.iload_n 1, 1) := by decide +kernel
theorem d_Ci_addRoundKey_20 : decode c_Ci_addRoundKey 20 = .ok (.bipush 16, 2) := by decide +kernel
theorem d_Ci_addRoundKey_22 : decode c_Ci_addRoundKey 22 = .ok (.imul, 1) := by decide +kernel
theorem d_Ci_addRoundKey_23 : decode c_Ci_addRoundKey 23 = .ok (.iload_n 2, 1) := by decide +kernel
theorem d_Ci_addRoundKey_24 : decode c_Ci_addRoundKey 24 = .ok (.iadd, 1) := by decide +kernel
theorem d_Ci_addRoundKey_25 : decode c_Ci_addRoundKey 25 = .ok (.iaload, 1) := by decide +kernel
theorem d_Ci_addRoundKey_26 : decode c_Ci_addRoundKey 26 = .ok (.ixor, 1) := by decide +kernel
theorem d_Ci_addRoundKey_27 : decode c_Ci_addRoundKey 27 = .ok (.iastore, 1) := by decide +kernel
theorem d_Ci_addRoundKey_28 : decode c_Ci_addRoundKey 28 = .ok (.iinc 2 1, 3) := by decide +kernel
theorem d_Ci_addRoundKey_31 : decode c_Ci_addRoundKey 31 = .ok (.goto (-29), 3) := by decide +kernel
theorem d_Ci_addRoundKey_34 : decode c_Ci_addRoundKey 34 = .ok (.return_, 1) := by decide +kernel
theorem d_Ci_substituteAndMove_0 : decode c_Ci_substituteAndMove 0 = .ok (.iconst 0, 1) := by decide +kernel
theorem d_Ci_substituteAndMove_1 : decode c_Ci_substituteAndMove 1 = .ok (.istore_n 1, 1) := by decide +kernel
theorem d_Ci_substituteAndMove_2 : decode c_Ci_substituteAndMove 2 = .ok (.iload_n 1, 1) := by decide +kernel
theorem d_Ci_substituteAndMove_3 : decode c_Ci_substituteAndMove 3 = .ok (.bipush 16, 2) := by decide +kernel
theorem d_Ci_substituteAndMove_5 : decode c_Ci_substituteAndMove 5 = .ok (.if_icmp .ge 34, 3) := by decide +kernel
theorem d_Ci_substituteAndMove_8 : decode c_Ci_substituteAndMove 8 = .ok (.aload_n 0, 1) := by decide +kernel
theorem d_Ci_substituteAndMove_9 : decode c_Ci_substituteAndMove 9 = .ok (.getfield 16, 3) := by decide +kernel
theorem d_Ci_substituteAndMove_12 : decode c_Ci_substituteAndMove 12 = .ok (.iload_n 1, 1) := by decide +kernel
theorem d_Ci_substituteAndMove_13 : decode c_Ci_substituteAndMove 13 = .ok (.getstatic 33, 3) := by decide +kernel
theorem d_Ci_substituteAndMove_16 : decode c_Ci_substituteAndMove 16 = .ok (.aload_n 0, 1) := by decide +kernel
theorem d_Ci_substituteAndMove_17 : decode c_Ci_substituteAndMove 17 = .ok (.getfield 13, 3) := by decide +kernel
theorem d_Ci_substituteAndMove_20 : decode c_Ci_substituteAndMove 20 = .ok (.iload_n 1, 1) := by decide +kernel
theorem d_Ci_substituteAndMove_21 : decode c_Ci_substituteAndMove 21 = .ok (.iconst 4, 1) := by decide +kernel
theorem d_Ci_substituteAndMove_22 : decode c_Ci_substituteAndMove 22 = .ok (.iload_n 1, 1) := by decide +kernel
theorem d_Ci_substituteAndMove_23 : decode c_Ci_substituteAndMove 23 = .ok (.iconst 4, 1) := by decide +kernel
theorem d_Ci_substituteAndMove_24 : decode c_Ci_substituteAndMove 24 = .ok (.irem, 1) := by decide +kernel
theorem d_Ci_substituteAndMove_25 : decode c_Ci_substituteAndMove 25 = .ok (.imul, 1) := by decide +kernel
theorem d_Ci_substituteAndMove_26 : decode c_Ci_substituteAndMove 26 = .ok (.iadd, 1) := by decide +kernel
theorem d_Ci_substituteAndMove_27 : decode c_Ci_substituteAndMove 27 = .ok (.bipush 16, 2) := by decide +kernel
theorem d_Ci_substituteAndMove_29 : decode c_Ci_substituteAndMove 29 = .ok (.irem, 1) := by decide +kernel
theorem d_Ci_substituteAndMove_30 : decode c_Ci_substituteAndMove 30 = .ok (.iaload, 1) := by decide +kernel
theorem d_Ci_substituteAndMove_31 : decode c_Ci_substituteAndMove 31 = .ok (.iaload, 1) := by decide +kernel
theorem d_Ci_substituteAndMove_32 : decode c_Ci_substituteAndMove 32 = .ok (.iastore, 1) := by decide +kernel
theorem d_Ci_substituteAndMove_33 : decode c_Ci_substituteAndMove 33 = .ok (.iinc 1 1, 3) := by decide +kernel
theorem d_Ci_substituteAndMove_36 : decode c_Ci_substituteAndMove 36 = .ok (.goto (-34), 3) := by decide +kernel
theorem d_Ci_substituteAndMove_39 : decode c_Ci_substituteAndMove 39 = .ok (.aload_n 0, 1) := by decide +kernel
theorem d_Ci_substituteAndMove_40 : decode c_Ci_substituteAndMove 40 = .ok (.getfield 16, 3) := by decide +kernel
theorem d_Ci_substituteAndMove_43 : decode c_Ci_substituteAndMove 43 = .ok (.iconst 0, 1) := by decide +kernel
theorem d_Ci_substituteAndMove_44 : decode c_Ci_substituteAndMove 44 = .ok (.aload_n 0, 1) := by decide +kernel
theorem d_Ci_substituteAndMove_45 : decode c_Ci_substituteAndMove 45 = .ok (.getfield 13, 3) := by decide +kernel
theorem d_Ci_substituteAndMove_48 : decode c_Ci_substituteAndMove 48 = .ok (.iconst 0, 1) := by decide +kernel
theorem d_Ci_substituteAndMove_49 : decode c_Ci_substituteAndMove 49 = .ok (.bipush 16, 2) := by decide +kernel
theorem d_Ci_substituteAndMove_51 : decode c_Ci_substituteAndMove 51 = .ok (.invokestatic 19, 3) := by decide +kernel
theorem d_Ci_substituteAndMove_54 : decode c_Ci_substituteAndMove 54 = .ok (.return_, 1) := by decide +kernel
theorem d_Ci_mixColumns_0 : decode c_Ci_mixColumns 0 = .ok (.iconst 0, 1) := by decide +kernel
theorem d_Ci_mixColumns_1 : decode c_Ci_mixColumns 1 = .ok (.istore_n 1, 1) := by decide +kernel
theorem d_Ci_mixColumns_2 : decode c_Ci_mixColumns 2 = .ok (.iload_n 1, 1) := by decide +kernel
theorem d_Ci_mixColumns_3 : decode c_Ci_mixColumns 3 = .ok (.bipush 16, 2) := by decide +kernel
theorem d_Ci_mixColumns_5 : decode c_Ci_mixColumns 5 = .ok (.if_icmp .ge 136, 3) := by decide +kernel
theorem d_Ci_mixColumns_8 : decode c_Ci_mixColumns 8 = .ok (.aload_n 0, 1) := by decide +kernel
theorem d_Ci_mixColumns_9 : decode c_Ci_mixColumns 9 = .ok (.getfield 13, 3) := by decide +kernel
theorem d_Ci_mixColumns_12 : decode c_Ci_mixColumns 12 = .ok (.iload_n 1, 1) := by decide +kernel
theorem d_Ci_mixColumns_13 : decode c_Ci_mixColumns 13 = .ok (.iaload, 1) := by decide +kernel
theorem d_Ci_mixColumns_14 : decode c_Ci_mixColumns 14 = .ok (.istore_n 2, 1) := by decide +kernel
theorem d_Ci_mixColumns_15 : decode c_Ci_mixColumns 15 = .ok (.aload_n 0, 1) := by decide +kernel
theorem d_Ci_mixColumns_16 : decode c_Ci_mixColumns 16 = .ok (.getfield 13, 3) := by decide +kernel
theorem d_Ci_mixColumns_19 : decode c_Ci_mixColumns 19 = .ok (.iload_n 1, 1) := by decide +kernel
theorem d_Ci_mixColumns_20 : decode c_Ci_mixColumns 20 = .ok (.iconst 1, 1) := by decide +kernel
theorem d_Ci_mixColumns_21 : decode c_Ci_mixColumns 21 = .ok (.iadd, 1) := by decide +kernel
theorem d_Ci_mixColumns_22 : decode c_Ci_mixColumns 22 = .ok (.iaload, 1) := by decide +kernel
theorem d_Ci_mixColumns_23 : decode c_Ci_mixColumns 23 = .ok (.istore_n 3, 1) := by decide +kernel
theorem d_Ci_mixColumns_24 : decode c_Ci_mixColumns 24 = .ok (.aload_n 0, 1) := by decide +kernel
theorem d_Ci_mixColumns_25 : decode c_Ci_mixColumns 25 = .ok (.getfield 13, 3) := by decide +kernel
theorem d_Ci_mixColumns_28 : decode c_Ci_mixColumns 28 = .ok (.iload_n 1, 1) := by decide +kernel
theorem d_Ci_mixColumns_29 : decode c_Ci_mixColumns 29 = .ok (.iconst 2, 1) := by decide +kernel
theorem d_Ci_mixColumns_30 : decode c_Ci_mixColumns 30 = .ok (.iadd, 1) := by decide +kernel
theorem d_Ci_mixColumns_31 : decode c_Ci_mixColumns 31 = .ok (.iaload, 1) := by decide +kernel
theorem d_Ci_mixColumns_32 : decode c_Ci_mixColumns 32 = .ok (.istore 4, 2) := by decide +kernel
theorem d_Ci_mixColumns_34 : decode c_Ci_mixColumns 34 = .ok (.aload_n 0, 1) := by decide +kernel
theorem d_Ci_mixColumns_35 : decode c_Ci_mixColumns 35 = .ok (.getfield 13, 3) := by decide +kernel
theorem d_Ci_mixColumns_38 : decode c_Ci_mixColumns 38 = .ok (.iload_n 1, 1) := by decide +kernel
theorem d_Ci_mixColumns_39 : decode c_Ci_mixColumns 39 = .ok (.iconst 3, 1) := by decide +kernel
theorem d_Ci_mixColumns_40 : decode c_Ci_mixColumns 40 = .ok (.iadd, 1) := by decide +kernel
theorem d_Ci_mixColumns_41 : decode c_Ci_mixColumns 41 = .ok (.iaload, 1) := by decide +kernel
theorem d_Ci_mixColumns_42 : decode c_Ci_mixColumns 42 = .ok (.istore 5, 2) := by decide +kernel
theorem d_Ci_mixColumns_44 : decode c_Ci_mixColumns 44 = .ok (.iload_n 2, 1) := by decide +kernel
theorem d_Ci_mixColumns_45 : decode c_Ci_mixColumns 45 = .ok (.iload_n 3, 1) := by decide +kernel
theorem d_Ci_mixColumns_46 : decode c_Ci_mixColumns 46 = .ok (.ixor, 1) := by decide +kernel
theorem d_Ci_mixColumns_47 : decode c_Ci_mixColumns 47 = .ok (.iload 4, 2) := by decide +kernel
theorem d_Ci_mixColumns_49 : decode c_Ci_mixColumns 49 = .ok (.ixor, 1) := by decide +kernel
theorem d_Ci_mixColumns_50 : decode c_Ci_mixColumns 50 = .ok (.iload 5, 2) := by decide +kernel
theorem d_Ci_mixColumns_52 : decode c_Ci_mixColumns 52 = .ok (.ixor, 1) := by decide +kernel
theorem d_Ci_mixColumns_53 : decode c_Ci_mixColumns 53 = .ok (.istore 6, 2) := by decide +kernel
theorem d_Ci_mixColumns_55 : decode c_Ci_mixColumns 55 = .ok (.aload_n 0, 1) := by decide +kernel
theorem d_Ci_mixColumns_56 : decode c_Ci_mixColumns 56 = .ok (.getfield 13, 3) := by decide +kernel
theorem d_Ci_mixColumns_59 : decode c_Ci_mixColumns 59 = .ok (.iload_n 1, 1) := by decide +kernel
theorem d_Ci_mixColumns_60 : decode c_Ci_mixColumns 60 = .ok (.iload_n 2, 1) := by decide +kernel
theorem d_Ci_mixColumns_61 : decode c_Ci_mixColumns 61 = .ok (.iload 6, 2) := by decide +kernel
theorem d_Ci_mixColumns_63 : decode c_Ci_mixColumns 63 = .ok (.ixor, 1) := by decide +kernel
theorem d_Ci_mixColumns_64 : decode c_Ci_mixColumns 64 = .ok (.iload_n 2, 1) := by decide +kernel
theorem d_Ci_mixColumns_65 : decode c_Ci_mixColumns 65 = .ok (.iload_n 3, 1) := by decide +kernel
theorem d_Ci_mixColumns_66 : decode c_Ci_mixColumns 66 = .ok (.ixor, 1) := by decide +kernel
theorem d_Ci_mixColumns_67 : decode c_Ci_mixColumns 67 = .ok (.invokestatic 29, 3) := by decide +kernel
theorem d_Ci_mixColumns_70 : decode c_Ci_mixColumns 70 = .ok (.ixor, 1) := by decide +kernel
theorem d_Ci_mixColumns_71 : decode c_Ci_mixColumns 71 = .ok (.iastore, 1) := by decide +kernel
theorem d_Ci_mixColumns_72 : decode c_Ci_mixColumns 72 = .ok (.aload_n 0, 1) := by decide +kernel
theorem d_Ci_mixColumns_73 : decode c_Ci_mixColumns 73 = .ok (.getfield 13, 3) := by decide +kernel
theorem d_Ci_mixColumns_76 : decode c_Ci_mixColumns 76 = .ok (.iload_n 1, 1) := by decide +kernel
theorem d_Ci_mixColumns_77 : decode c_Ci_mixColumns 77 = .ok (.iconst 1, 1) := by decide +kernel
theorem d_Ci_mixColumns_78 : decode c_Ci_mixColumns 78 = .ok (.iadd, 1) := by decide +kernel
theorem d_Ci_mixColumns_79 : decode c_Ci_mixColumns 79 = .ok (.iload_n 3, 1) := by decide +kernel
theorem d_Ci_mixColumns_80 : decode c_Ci_mixColumns 80 = .ok (.iload 6, 2) := by decide +kernel
theorem d_Ci_mixColumns_82 : decode c_Ci_mixColumns 82 = .ok (.ixor, 1) := by decide +kernel
theorem d_Ci_mixColumns_83 : decode c_Ci_mixColumns 83 = .ok (.iload_n 3, 1) := by decide +kernel
theorem d_Ci_mixColumns_84 : decode c_Ci_mixColumns 84 = .ok (.iload 4, 2) := by decide +kernel
theorem d_Ci_mixColumns_86 : decode c_Ci_mixColumns 86 = .ok (.ixor, 1) := by decide +kernel
theorem d_Ci_mixColumns_87 : decode c_Ci_mixColumns 87 = .ok (.invokestatic 29, 3) := by decide +kernel
theorem d_Ci_mixColumns_90 : decode c_Ci_mixColumns 90 = .ok (.ixor, 1) := by decide +kernel
theorem d_Ci_mixColumns_91 : decode c_Ci_mixColumns 91 = .ok (.iastore, 1) := by decide +kernel
theorem d_Ci_mixColumns_92 : decode c_Ci_mixColumns 92 = .ok (.aload_n 0, 1) := by decide +kernel
theorem d_Ci_mixColumns_93 : decode c_Ci_mixColumns 93 = .ok (.getfield 13, 3) := by decide +kernel
theorem d_Ci_mixColumns_96 : decode c_Ci_mixColumns 96 = .ok (.iload_n 1, 1) := by decide +kernel
theorem d_Ci_mixColumns_97 : decode c_Ci_mixColumns 97 = .ok (.iconst 2, 1) := by decide +kernel
theorem d_Ci_mixColumns_98 : decode c_Ci_mixColumns 98 = .ok (.iadd, 1) := by decide +kernel
theorem d_Ci_mixColumns_99 : decode c_Ci_mixColumns 99 = .ok (.iload 4, 2) := by decide +kernel
theorem d_Ci_mixColumns_101 : decode c_Ci_mixColumns 101 = .ok (.iload 6, 2) := by decide +kernel
theorem d_Ci_mixColumns_103 : decode c_Ci_mixColumns 103 = .ok (.ixor, 1) := by decide +kernel
theorem d_Ci_mixColumns_104 : decode c_Ci_mixColumns 104 = .ok (.iload 4, 2) := by decide +kernel
theorem d_Ci_mixColumns_106 : decode c_Ci_mixColumns 106 = .ok (.iload 5, 2) := by decide +kernel
theorem d_Ci_mixColumns_108 : decode c_Ci_mixColumns 108 = .ok (.ixor, 1) := by decide +kernel
theorem d_Ci_mixColumns_109 : decode c_Ci_mixColumns 109 = .ok (.invokestatic 29, 3) := by decide +kernel
theorem d_Ci_mixColumns_112 : decode c_Ci_mixColumns 112 = .ok (.ixor, 1) := by decide +kernel
theorem d_Ci_mixColumns_113 : decode c_Ci_mixColumns 113 = .ok (.iastore, 1) := by decide +kernel
theorem d_Ci_mixColumns_114 : decode c_Ci_mixColumns 114 = .ok (.aload_n 0, 1) := by decide +kernel
theorem d_Ci_mixColumns_115 : decode c_Ci_mixColumns 115 = .ok (.getfield 13, 3) := by decide +kernel
theorem d_Ci_mixColumns_118 : decode c_Ci_mixColumns 118 = .ok (.iload_n 1, 1) := by decide +kernel
theorem d_Ci_mixColumns_119 : decode c_Ci_mixColumns 119 = .ok (.iconst 3, 1) := by decide +kernel
theorem d_Ci_mixColumns_120 : decode c_Ci_mixColumns 120 = .ok (.iadd, 1) := by decide +kernel
theorem d_Ci_mixColumns_121 : decode c_Ci_mixColumns 121 = .ok (.iload 5, 2) := by decide +kernel
theorem d_Ci_mixColumns_123 : decode c_Ci_mixColumns 123 = .ok (.iload 6, 2) := by decide +kernel
theorem d_Ci_mixColumns_125 : decode c_Ci_mixColumns 125 = .ok (.ixor, 1) := by decide +kernel
theorem d_Ci_mixColumns_126 : decode c_Ci_mixColumns 126 = .ok (.iload 5, 2) := by decide +kernel
theorem d_Ci_mixColumns_128 : decode c_Ci_mixColumns 128 = .ok (.iload_n 2, 1) := by decide +kernel
theorem d_Ci_mixColumns_129 : decode c_Ci_mixColumns 129 = .ok (.ixor, 1) := by decide +kernel
theorem d_Ci_mixColumns_130 : decode c_Ci_mixColumns 130 = .ok (.invokestatic 29, 3) := by decide +kernel
theorem d_Ci_mixColumns_133 : decode c_Ci_mixColumns 133 = .ok (.ixor, 1) := by decide +kernel
theorem d_Ci_mixColumns_134 : decode c_Ci_mixColumns 134 = .ok (.iastore, 1) := by decide +kernel
theorem d_Ci_mixColumns_135 : decode c_Ci_mixColumns 135 = .ok (.iinc 1 4, 3) := by decide +kernel
theorem d_Ci_mixColumns_138 : decode c_Ci_mixColumns 138 = .ok (.goto (-136), 3) := by decide +kernel
theorem d_Ci_mixColumns_141 : decode c_Ci_mixColumns 141 = .ok (.return_, 1) := by decide +kernel
theorem d_Ci_timesX_0 : decode c_Ci_timesX 0 = .ok (.iload_n 0, 1) := by decide +kernel
theorem d_Ci_timesX_1 : decode c_Ci_timesX 1 = .ok (.sipush 128, 3) := by decide +kernel
theorem d_Ci_timesX_4 : decode c_Ci_timesX 4 = .ok (.if_icmp .ge 9, 3) := by decide +kernel
theorem d_Ci_timesX_7 : decode c_Ci_timesX 7 = .ok (.iload_n 0, 1) := by decide +kernel
theorem d_Ci_timesX_8 : decode c_Ci_timesX 8 = .ok (.iconst 1, 1) := by decide +kernel
theorem d_Ci_timesX_9 : decode c_Ci_timesX 9 = .ok (.ishl, 1) := by decide +kernel
theorem d_Ci_timesX_10 : decode c_Ci_timesX 10 = .ok (.goto 10, 3) := by decide +kernel
theorem d_Ci_timesX_13 : decode c_Ci_timesX 13 = .ok (.iload_n 0, 1) := by decide +kernel
theorem d_Ci_timesX_14 : decode c_Ci_timesX 14 = .ok (.iconst 1, 1) := by decide +kernel
theorem d_Ci_timesX_15 : decode c_Ci_timesX 15 = .ok (.ishl, 1) := by decide +kernel
theorem d_Ci_timesX_16 : decode c_Ci_timesX 16 = .ok (.sipush 283, 3) := by decide +kernel
theorem d_Ci_timesX_19 : decode c_Ci_timesX 19 = .ok (.ixor, 1) := by decide +kernel
theorem d_Ci_timesX_20 : decode c_Ci_timesX 20 = .ok (.ireturn, 1) := by decide +kernel
theorem d_Dg_new_0 : decode c_Dg_new 0 = .ok (.aload_n 0, 1) := by decide +kernel
theorem d_Dg_new_1 : decode c_Dg_new 1 = .ok (.invokespecial 1, 3) := by decide +kernel
theorem d_Dg_new_4 : decode c_Dg_new 4 = .ok (.aload_n 0, 1) := by decide +kernel
theorem d_Dg_new_5 : decode c_Dg_new 5 = .ok (.getstatic 7, 3) := by decide +kernel
theorem d_Dg_new_8 : decode c_Dg_new 8 = .ok (.arraylength, 1) := by decide +kernel
theorem d_Dg_new_9 : decode c_Dg_new 9 = .ok (.newarray .int, 2) := by decide +kernel
theorem d_Dg_new_11 : decode c_Dg_new 11 = .ok (.putfield 13, 3) := by decide +kernel
theorem d_Dg_new_14 : decode c_Dg_new 14 = .ok (.aload_n 0, 1) := by decide +kernel
theorem d_Dg_new_15 : decode c_Dg_new 15 = .ok (.bipush 64, 2) := by decide +kernel
theorem d_Dg_new_17 : decode c_Dg_new 17 = .ok (.newarray .int, 2) := by decide +kernel
theorem d_Dg_new_19 : decode c_Dg_new 19 = .ok (.putfield 16, 3) := by decide +kernel
theorem d_Dg_new_22 : decode c_Dg_new 22 = .ok (.aload_n 0, 1) := by decide +kernel
theorem d_Dg_new_23 : decode c_Dg_new 23 = .ok (.bipush 32, 2) := by decide +kernel
theorem d_Dg_new_25 : decode c_Dg_new 25 = .ok (.newarray .int, 2) := by decide +kernel
theorem d_Dg_new_27 : decode c_Dg_new 27 = .ok (.putfield 19, 3) := by decide +kernel
theorem d_Dg_new_30 : decode c_Dg_new 30 = .ok (.return_, 1) := by decide +kernel
theorem d_Dg_twice_0 : decode c_Dg_twice 0 = .ok (.aload_n 0, 1) := by decide +kernel
theorem d_Dg_twice_1 : decode c_Dg_twice 1 = .ok (.aload_n 1, 1) := by decide +kernel
theorem d_Dg_twice_2 : decode c_Dg_twice 2 = .ok (.iload_n 2, 1) := by decide +kernel
theorem d_Dg_twice_3 : decode c_Dg_twice 3 = .ok (.invokevirtual 22, 3) := by decide +kernel
theorem d_Dg_twice_6 : decode c_Dg_twice 6 = .ok (.aload_n 0, 1) := by decide +kernel
theorem d_Dg_twice_7 : decode c_Dg_twice 7 = .ok (.aload_n 0, 1) := by decide +kernel
theorem d_Dg_twice_8 : decode c_Dg_twice 8 = .ok (.getfield 19, 3) := by decide +kernel
theorem d_Dg_twice_11 : decode c_Dg_twice 11 = .ok (.iconst 0, 1) := by decide +kernel
theorem d_Dg_twice_12 : decode c_Dg_twice 12 = .ok (.invokevirtual 26, 3) := by decide +kernel
theorem d_Dg_twice_15 : decode c_Dg_twice 15 = .ok (.aload_n 0, 1) := by decide +kernel
theorem d_Dg_twice_16 : decode c_Dg_twice 16 = .ok (.aload_n 0, 1) := by decide +kernel
theorem d_Dg_twice_17 : decode c_Dg_twice 17 = .ok (.getfield 19, 3) := by decide +kernel
theorem d_Dg_twice_20 : decode c_Dg_twice 20 = .ok (.bipush 32, 2) := by decide +kernel
theorem d_Dg_twice_22 : decode c_Dg_twice 22 = .ok (.invokevirtual 22, 3) := by decide +kernel
theorem d_Dg_twice_25 : decode c_Dg_twice 25 = .ok (.aload_n 0, 1) := by decide +kernel
theorem d_Dg_twice_26 : decode c_Dg_twice 26 = .ok (.aload_n 3, 1) := by decide +kernel
theorem d_Dg_twice_27 : decode c_Dg_twice 27 = .ok (.iload 4, 2) := by decide +kernel
theorem d_Dg_twice_29 : decode c_Dg_twice 29 = .ok (.invokevirtual 26, 3) := by decide +kernel
theorem d_Dg_twice_32 : decode c_Dg_twice 32 = .ok (.return_, 1) := by decide +kernel
theorem d_Dg_digest_0 : decode c_Dg_digest 0 = .ok (.getstatic 7, 3) := by decide +kernel
theorem d_Dg_digest_3 : decode c_Dg_digest 3 = .ok (.iconst 0, 1) := by decide +kernel
theorem d_Dg_digest_4 : decode c_Dg_digest 4 = .ok (.aload_n 0, 1) := by decide +kernel
theorem d_Dg_digest_5 : decode c_Dg_digest 5 = .ok (.getfield 13, 3) := by decide +kernel
theorem d_Dg_digest_8 : decode c_Dg_digest 8 = .ok (.iconst 0, 1) := by decide +kernel
theorem d_Dg_digest_9 : decode c_Dg_digest 9 = .ok (.getstatic 7, 3) := by decide +kernel
theorem d_Dg_digest_12 : decode c_Dg_digest 12 = .ok (.arraylength, 1) := by decide +kernel
theorem d_Dg_digest_13 : decode c_Dg_digest 13 = .ok (.invokestatic 29, 3) := by decide +kernel
theorem d_Dg_digest_16 : decode c_Dg_digest 16 = .ok (.iload_n 2, 1) := by decide +kernel
theorem d_Dg_digest_17 : decode c_Dg_digest 17 = .ok (.bipush 8, 2) := by decide +kernel
theorem d_Dg_digest_19 : decode c_Dg_digest 19 = .ok (.iadd, 1) := by decide +kernel
theorem d_Dg_digest_20 : decode c_Dg_digest 20 = .ok (.bipush 64, 2) := by decide +kernel
theorem d_Dg_digest_22 : decode c_Dg_digest 22 = .ok (.idiv, 1) := by decide +kernel
theorem d_Dg_digest_23 : decode c_Dg_digest 23 = .ok (.iconst 1, 1) := by decide +kernel
theorem d_Dg_digest_24 : decode c_Dg_digest 24 = .ok (.iadd, 1) := by decide +kernel
theorem d_Dg_digest_25 : decode c_Dg_digest 25 = .ok (.bipush 64, 2) := by decide +kernel
theorem d_Dg_digest_27 : decode c_Dg_digest 27 = .ok (.imul, 1) := by decide +kernel
theorem d_Dg_digest_28 : decode c_Dg_digest 28 = .ok (.istore_n 3, 1) := by decide +kernel
theorem d_Dg_digest_29 : decode c_Dg_digest 29 = .ok (.iconst 0, 1) := by decide +kernel
theorem d_Dg_digest_30 : decode c_Dg_digest 30 = .ok (.istore 4, 2) := by decide +kernel
theorem d_Dg_digest_32 : decode c_Dg_digest 32 = .ok (.iload 4, 2) := by decide +kernel
theorem d_Dg_digest_34 : decode c_Dg_digest 34 = .ok (.iload_n 3, 1) := by decide +kernel
theorem d_Dg_digest_35 : decode c_Dg_digest 35 = .ok (.if_icmp .ge 26, 3) := by decide +kernel
theorem d_Dg_digest_38 : decode c_Dg_digest 38 = .ok (.aload_n 0, 1) := by decide +kernel
theorem d_Dg_digest_39 : decode c_Dg_digest 39 = .ok (.aload_n 1, 1) := by decide +kernel
theorem d_Dg_digest_40 : decode c_Dg_digest 40 = .ok (.iload_n 2, 1) := by decide +kernel
theorem d_Dg_digest_41 : decode c_Dg_digest 41 = .ok (.iload 4, 2) := by decide +kernel
theorem d_Dg_digest_43 : decode c_Dg_digest 43 = .ok (.iload_n 3, 1) := by decide +kernel
theorem d_Dg_digest_44 : decode c_Dg_digest 44 = .ok (.invokevirtual 35, 3) := by decide +kernel
theorem d_Dg_digest_47 : decode c_Dg_digest 47 = .ok (.aload_n 0, 1) := by decide +kernel
theorem d_Dg_digest_48 : decode c_Dg_digest 48 = .ok (.invokevirtual 39, 3) := by decide +kernel
theorem d_Dg_digest_51 : decode c_Dg_digest 51 = .ok (.aload_n 0, 1) := by decide +kernel
theorem d_Dg_digest_52 : decode c_Dg_digest 52 = .ok (.invokevirtual 42, 3) := by decide +kernel
theorem d_Dg_digest_55 : decode c_Dg_digest 55 = .ok (.iinc 4 64, 3) := by decide +kernel
theorem d_Dg_digest_58 : decode c_Dg_digest 58 = .ok (.goto (-26), 3) := by decide +kernel
theorem d_Dg_digest_61 : decode c_Dg_digest 61 = .ok (.return_, 1) := by decide +kernel
theorem d_Dg_takeWords_0 : decode c_Dg_takeWords 0 = .ok (.iconst 0, 1) := by decide +kernel
theorem d_Dg_takeWords_1 : decode c_Dg_takeWords 1 = .ok (.istore 5, 2) := by decide +kernel
theorem d_Dg_takeWords_3 : decode c_Dg_takeWords 3 = .ok (.iload 5, 2) := by decide +kernel
theorem d_Dg_takeWords_5 : decode c_Dg_takeWords 5 = .ok (.bipush 16, 2) := by decide +kernel
theorem d_Dg_takeWords_7 : decode c_Dg_takeWords 7 = .ok (.if_icmp .ge 60, 3) := by decide +kernel
theorem d_Dg_takeWords_10 : decode c_Dg_takeWords 10 = .ok (.iconst 0, 1) := by decide +kernel
theorem d_Dg_takeWords_11 : decode c_Dg_takeWords 11 = .ok (.istore 6, 2) := by decide +kernel
theorem d_Dg_takeWords_13 : decode c_Dg_takeWords 13 = .ok (.iconst 0, 1) := by decide +kernel
theorem d_Dg_takeWords_14 : decode c_Dg_takeWords 14 = .ok (.istore 7, 2) := by decide +kernel
theorem d_Dg_takeWords_16 : decode c_Dg_takeWords 16 = .ok (.iload 7, 2) := by decide +kernel
theorem d_Dg_takeWords_18 : decode c_Dg_takeWords 18 = .ok (.iconst 4, 1) := by decide +kernel
theorem d_Dg_takeWords_19 : decode c_Dg_takeWords 19 = .ok (.if_icmp .ge 33, 3) := by decide +kernel
theorem d_Dg_takeWords_22 : decode c_Dg_takeWords 22 = .ok (.iload 6, 2) := by decide +kernel
theorem d_Dg_takeWords_24 : decode c_Dg_takeWords 24 = .ok (.bipush 8, 2) := by decide +kernel
theorem d_Dg_takeWords_26 : decode c_Dg_takeWords 26 = .ok (.ishl, 1) := by decide +kernel
theorem d_Dg_takeWords_27 : decode c_Dg_takeWords 27 = .ok (.aload_n 1, 1) := by decide +kernel
theorem d_Dg_takeWords_28 : decode c_Dg_takeWords 28 = .ok (.iload_n 2, 1) := by decide +kernel
theorem d_Dg_takeWords_29 : decode c_Dg_takeWords 29 = .ok (.iload_n 3, 1) := by decide +kernel
theorem d_Dg_takeWords_30 : decode c_Dg_takeWords 30 = .ok (.iconst 4, 1) := by decide +kernel
theorem d_Dg_takeWords_31 : decode c_Dg_takeWords 31 = .ok (.iload 5, 2) := by decide +kernel
theorem d_Dg_takeWords_33 : decode c_Dg_takeWords 33 = .ok (.imul, 1) := by decide +kernel
theorem d_Dg_takeWords_34 : decode c_Dg_takeWords 34 = .ok (.iadd, 1) := by decide +kernel
theorem d_Dg_takeWords_35 : decode c_Dg_takeWords 35 = .ok (.iload 7, 2) := by decide +kernel
theorem d_Dg_takeWords_37 : decode c_Dg_takeWords 37 = .ok (.iadd, 1) := by decide +kernel
theorem d_Dg_takeWords_38 : decode c_Dg_takeWords 38 = .ok (.iload 4, 2) := by decide +kernel
theorem d_Dg_takeWords_40 : decode c_Dg_takeWords 40 = .ok (.invokestatic 45, 3) := by decide +kernel
theorem d_Dg_takeWords_43 : decode c_Dg_takeWords 43 = .ok (.ior, 1) := by decide +kernel
theorem d_Dg_takeWords_44 : decode c_Dg_takeWords 44 = .ok (.istore 6, 2) := by decide +kernel
theorem d_Dg_takeWords_46 : decode c_Dg_takeWords 46 = .ok (.iinc 7 1, 3) := by decide +kernel
theorem d_Dg_takeWords_49 : decode c_Dg_takeWords 49 = .ok (.goto (-33), 3) := by decide +kernel
theorem d_Dg_takeWords_52 : decode c_Dg_takeWords 52 = .ok (.aload_n 0, 1) := by decide +kernel
theorem d_Dg_takeWords_53 : decode c_Dg_takeWords 53 = .ok (.getfield 16, 3) := by decide +kernel
theorem d_Dg_takeWords_56 : decode c_Dg_takeWords 56 = .ok (.iload 5, 2) := by decide +kernel
theorem d_Dg_takeWords_58 : decode c_Dg_takeWords 58 = .ok (.iload 6, 2) := by decide +kernel
theorem d_Dg_takeWords_60 : decode c_Dg_takeWords 60 = .ok (.iastore, 1) := by decide +kernel
theorem d_Dg_takeWords_61 : decode c_Dg_takeWords 61 = .ok (.iinc 5 1, 3) := by decide +kernel
theorem d_Dg_takeWords_64 : decode c_Dg_takeWords 64 = .ok (.goto (-61), 3) := by decide +kernel
theorem d_Dg_takeWords_67 : decode c_Dg_takeWords 67 = .ok (.return_, 1) := by decide +kernel
theorem d_Dg_filledByte_0 : decode c_Dg_filledByte 0 = .ok (.iload_n 2, 1) := by decide +kernel
theorem d_Dg_filledByte_1 : decode c_Dg_filledByte 1 = .ok (.iload_n 1, 1) := by decide +kernel
theorem d_Dg_filledByte_2 : decode c_Dg_filledByte 2 = .ok (.if_icmp .ge 7, 3) := by decide +kernel
theorem d_Dg_filledByte_5 : decode c_Dg_filledByte 5 = .ok (.aload_n 0, 1) := by decide +kernel
theorem d_Dg_filledByte_6 : decode c_Dg_filledByte 6 = .ok (.iload_n 2, 1) := by decide +kernel
theorem d_Dg_filledByte_7 : decode c_Dg_filledByte 7 = .ok (.iaload, 1) := by decide +kernel
theorem d_Dg_filledByte_8 : decode c_Dg_filledByte 8 = .ok (.ireturn, 1) := by decide +kernel
theorem d_Dg_filledByte_9 : decode c_Dg_filledByte 9 = .ok (.iload_n 2, 1) := by decide +kernel
theorem d_Dg_filledByte_10 : decode c_Dg_filledByte 10 = .ok (.iload_n 1, 1) := by decide +kernel
theorem d_Dg_filledByte_11 : decode c_Dg_filledByte 11 = .ok (.if_icmp .ne 7, 3) := by decide +kernel
theorem d_Dg_filledByte_14 : decode c_Dg_filledByte 14 = .ok (.sipush 128, 3) := by decide +kernel
theorem d_Dg_filledByte_17 : decode c_Dg_filledByte 17 = .ok (.ireturn, 1) := by decide +kernel
theorem d_Dg_filledByte_18 : decode c_Dg_filledByte 18 = .ok (.iload_n 2, 1) := by decide +kernel
theorem d_Dg_filledByte_19 : decode c_Dg_filledByte 19 = .ok (.iload_n 3, 1) := by decide +kernel
theorem d_Dg_filledByte_20 : decode c_Dg_filledByte 20 = .ok (.bipush 8, 2) := by decide +kernel
theorem d_Dg_filledByte_22 : decode c_Dg_filledByte 22 = .ok (.isub, 1) := by decide +kernel
theorem d_Dg_filledByte_23 : decode c_Dg_filledByte 23 = .ok (.if_icmp .ge 5, 3) := by decide +kernel
theorem d_Dg_filledByte_26 : decode c_Dg_filledByte 26 = .ok (.iconst 0, 1) := by decide +kernel
theorem d_Dg_filledByte_27 : decode c_Dg_filledByte 27 = .ok (.ireturn, 1) := by decide +kernel
theorem d_Dg_filledByte_28 : decode c_Dg_filledByte 28 = .ok (.ldc2_w 49, 3) := by decide +kernel
theorem d_Dg_filledByte_31 : decode c_Dg_filledByte 31 = .ok (.iload_n 1, 1) := by decide +kernel
theorem d_Dg_filledByte_32 : decode c_Dg_filledByte 32 = .ok (.i2l, 1) := by decide +kernel
theorem d_Dg_filledByte_33 : decode c_Dg_filledByte 33 = .ok (.lmul, 1) := by decide +kernel
theorem d_Dg_filledByte_34 : decode c_Dg_filledByte 34 = .ok (.lstore 4, 2) := by decide +kernel
theorem d_Dg_filledByte_36 : decode c_Dg_filledByte 36 = .ok (.lload 4, 2) := by decide +kernel
theorem d_Dg_filledByte_38 : decode c_Dg_filledByte 38 = .ok (.bipush 8, 2) := by decide +kernel
theorem d_Dg_filledByte_40 : decode c_Dg_filledByte 40 = .ok (.iload_n 3, 1) := by decide +kernel
theorem d_Dg_filledByte_41 : decode c_Dg_filledByte 41 = .ok (.iconst 1, 1) := by decide +kernel
theorem d_Dg_filledByte_42 : decode c_Dg_filledByte 42 = .ok (.isub, 1) := by decide +kernel
theorem d_Dg_filledByte_43 : decode c_Dg_filledByte 43 = .ok (.iload_n 2, 1) := by decide +kernel
theorem d_Dg_filledByte_44 : decode c_Dg_filledByte 44 = .ok (.isub, 1) := by decide +kernel
theorem d_Dg_filledByte_45 : decode c_Dg_filledByte 45 = .ok (.imul, 1) := by decide +kernel
theorem d_Dg_filledByte_46 : decode c_Dg_filledByte 46 = .ok (.lushr, 1) := by decide +kernel
theorem d_Dg_filledByte_47 : decode c_Dg_filledByte 47 = .ok (.l2i, 1) := by decide +kernel
theorem d_Dg_filledByte_48 : decode c_Dg_filledByte 48 = .ok (.sipush 255, 3) := by decide +kernel
theorem d_Dg_filledByte_51 : decode c_Dg_filledByte 51 = .ok (.iand, 1) := by decide +kernel
theorem d_Dg_filledByte_52 : decode c_Dg_filledByte 52 = .ok (.ireturn, 1) := by decide +kernel
theorem d_Dg_spreadWords_0 : decode c_Dg_spreadWords 0 = .ok (.bipush 16, 2) := by decide +kernel
theorem d_Dg_spreadWords_2 : decode c_Dg_spreadWords 2 = .ok (.istore_n 1, 1) := by decide +kernel
theorem d_Dg_spreadWords_3 : decode c_Dg_spreadWords 3 = .ok (.iload_n 1, 1) := by decide +kernel
theorem d_Dg_spreadWords_4 : decode c_Dg_spreadWords 4 = .ok (.bipush 64, 2) := by decide +kernel
theorem d_Dg_spreadWords_6 : decode c_Dg_spreadWords 6 = .ok (.if_icmp .ge 98, 3) := by decide +kernel
theorem d_Dg_spreadWords_9 : decode c_Dg_spreadWords 9 = .ok (.aload_n 0, 1) := by decide +kernel
theorem d_Dg_spreadWords_10 : decode c_Dg_spreadWords 10 = .ok (.getfield 16, 3) := by decide +kernel
theorem d_Dg_spreadWords_13 : decode c_Dg_spreadWords 13 = .ok (.iload_n 1, 1) := by decide +kernel
theorem d_Dg_spreadWords_14 : decode c_Dg_spreadWords 14 = .ok (.bipush 15, 2) := by decide +kernel
theorem d_Dg_spreadWords_16 : decode c_Dg_spreadWords 16 = .ok (.isub, 1) := by decide +kernel
theorem d_Dg_spreadWords_17 : decode c_Dg_spreadWords 17 = .ok (.iaload, 1) := by decide +kernel
theorem d_Dg_spreadWords_18 : decode c_Dg_spreadWords 18 = .ok (.istore_n 2, 1) := by decide +kernel
theorem d_Dg_spreadWords_19 : decode c_Dg_spreadWords 19 = .ok (.aload_n 0, 1) := by decide +kernel
theorem d_Dg_spreadWords_20 : decode c_Dg_spreadWords 20 = .ok (.getfield 16, 3) := by decide +kernel
theorem d_Dg_spreadWords_23 : decode c_Dg_spreadWords 23 = .ok (.iload_n 1, 1) := by decide +kernel
theorem d_Dg_spreadWords_24 : decode c_Dg_spreadWords 24 = .ok (.iconst 2, 1) := by decide +kernel
theorem d_Dg_spreadWords_25 : decode c_Dg_spreadWords 25 = .ok (.isub, 1) := by decide +kernel
theorem d_Dg_spreadWords_26 : decode c_Dg_spreadWords 26 = .ok (.iaload, 1) := by decide +kernel
theorem d_Dg_spreadWords_27 : decode c_Dg_spreadWords 27 = .ok (.istore_n 3, 1) := by decide +kernel
theorem d_Dg_spreadWords_28 : decode c_Dg_spreadWords 28 = .ok (.iload_n 2, 1) := by decide +kernel
theorem d_Dg_spreadWords_29 : decode c_Dg_spreadWords 29 = .ok (.bipush 7, 2) := by decide +kernel
theorem d_Dg_spreadWords_31 : decode c_Dg_spreadWords 31 = .ok (.invokestatic 51, 3) := by decide +kernel
theorem d_Dg_spreadWords_34 : decode c_Dg_spreadWords 34 = .ok (.iload_n 2, 1) := by decide +kernel
theorem d_Dg_spreadWords_35 : decode c_Dg_spreadWords 35 = .ok (.bipush 18, 2) := by decide +kernel
theorem d_Dg_spreadWords_37 : decode c_Dg_spreadWords 37 = .ok (.invokestatic 51, 3) := by decide +kernel
theorem d_Dg_spreadWords_40 : decode c_Dg_spreadWords 40 = .ok (.ixor, 1) := by decide +kernel
theorem d_Dg_spreadWords_41 : decode c_Dg_spreadWords 41 = .ok (.iload_n 2, 1) := by decide +kernel
theorem d_Dg_spreadWords_42 : decode c_Dg_spreadWords 42 = .ok (.iconst 3, 1) := by decide +kernel
theorem d_Dg_spreadWords_43 : decode c_Dg_spreadWords 43 = .ok (.iushr, 1) := by decide +kernel
theorem d_Dg_spreadWords_44 : decode c_Dg_spreadWords 44 = .ok (.ixor, 1) := by decide +kernel
theorem d_Dg_spreadWords_45 : decode c_Dg_spreadWords 45 = .ok (.istore 4, 2) := by decide +kernel
theorem d_Dg_spreadWords_47 : decode c_Dg_spreadWords 47 = .ok (.iload_n 3, 1) := by decide +kernel
theorem d_Dg_spreadWords_48 : decode c_Dg_spreadWords 48 = .ok (.bipush 17, 2) := by decide +kernel
theorem d_Dg_spreadWords_50 : decode c_Dg_spreadWords 50 = .ok (.invokestatic 51, 3) := by decide +kernel
theorem d_Dg_spreadWords_53 : decode c_Dg_spreadWords 53 = .ok (.iload_n 3, 1) := by decide +kernel
theorem d_Dg_spreadWords_54 : decode c_Dg_spreadWords 54 = .ok (.bipush 19, 2) := by decide +kernel
theorem d_Dg_spreadWords_56 : decode c_Dg_spreadWords 56 = .ok (.invokestatic 51, 3) := by decide +kernel
theorem d_Dg_spreadWords_59 : decode c_Dg_spreadWords 59 = .ok (.ixor, 1) := by decide +kernel
theorem d_Dg_spreadWords_60 : decode c_Dg_spreadWords 60 = .ok (.iload_n 3, 1) := by decide +kernel
theorem d_Dg_spreadWords_61 : decode c_Dg_spreadWords 61 = .ok (.bipush 10, 2) := by decide +kernel
theorem d_Dg_spreadWords_63 : decode c_Dg_spreadWords 63 = .ok (.iushr, 1) := by decide +kernel
theorem d_Dg_spreadWords_64 : decode c_Dg_spreadWords 64 = .ok (.ixor, 1) := by decide +kernel
theorem d_Dg_spreadWords_65 : decode c_Dg_spreadWords 65 = .ok (.istore 5, 2) := by decide +kernel
theorem d_Dg_spreadWords_67 : decode c_Dg_spreadWords 67 = .ok (.aload_n 0, 1) := by decide +kernel
theorem d_Dg_spreadWords_68 : decode c_Dg_spreadWords 68 = .ok (.getfield 16, 3) := by decide +kernel
theorem d_Dg_spreadWords_71 : decode c_Dg_spreadWords 71 = .ok (.iload_n 1, 1) := by decide +kernel
theorem d_Dg_spreadWords_72 : decode c_Dg_spreadWords 72 = .ok (.aload_n 0, 1) := by decide +kernel
theorem d_Dg_spreadWords_73 : decode c_Dg_spreadWords 73 = .ok (.getfield 16, 3) := by decide +kernel
theorem d_Dg_spreadWords_76 : decode c_Dg_spreadWords 76 = .ok (.iload_n 1, 1) := by decide +kernel
theorem d_Dg_spreadWords_77 : decode c_Dg_spreadWords 77 = .ok (.bipush 16, 2) := by decide +kernel
theorem d_Dg_spreadWords_79 : decode c_Dg_spreadWords 79 = .ok (.isub, 1) := by decide +kernel
theorem d_Dg_spreadWords_80 : decode c_Dg_spreadWords 80 = .ok (.iaload, 1) := by decide +kernel
theorem d_Dg_spreadWords_81 : decode c_Dg_spreadWords 81 = .ok (.iload 4, 2) := by decide +kernel
theorem d_Dg_spreadWords_83 : decode c_Dg_spreadWords 83 = .ok (.iadd, 1) := by decide +kernel
theorem d_Dg_spreadWords_84 : decode c_Dg_spreadWords 84 = .ok (.aload_n 0, 1) := by decide +kernel
theorem d_Dg_spreadWords_85 : decode c_Dg_spreadWords 85 = .ok (.getfield 16, 3) := by decide +kernel
theorem d_Dg_spreadWords_88 : decode c_Dg_spreadWords 88 = .ok (.iload_n 1, 1) := by decide +kernel
theorem d_Dg_spreadWords_89 : decode c_Dg_spreadWords 89 = .ok (.bipush 7, 2) := by decide +kernel
theorem d_Dg_spreadWords_91 : decode c_Dg_spreadWords 91 = .ok (.isub, 1) := by decide +kernel
theorem d_Dg_spreadWords_92 : decode c_Dg_spreadWords 92 = .ok (.iaload, 1) := by decide +kernel
theorem d_Dg_spreadWords_93 : decode c_Dg_spreadWords 93 = .ok (.iadd, 1) := by decide +kernel
theorem d_Dg_spreadWords_94 : decode c_Dg_spreadWords 94 = .ok (.iload 5, 2) := by decide +kernel
theorem d_Dg_spreadWords_96 : decode c_Dg_spreadWords 96 = .ok (.iadd, 1) := by decide +kernel
theorem d_Dg_spreadWords_97 : decode c_Dg_spreadWords 97 = .ok (.iastore, 1) := by decide +kernel
theorem d_Dg_spreadWords_98 : decode c_Dg_spreadWords 98 = .ok (.iinc 1 1, 3) := by decide +kernel
theorem d_Dg_spreadWords_101 : decode c_Dg_spreadWords 101 = .ok (.goto (-98), 3) := by decide +kernel
theorem d_Dg_spreadWords_104 : decode c_Dg_spreadWords 104 = .ok (.return_, 1) := by decide +kernel
theorem d_Dg_mixWords_0 : decode c_Dg_mixWords 0 = .ok (.aload_n 0, 1) := by decide +kernel
theorem d_Dg_mixWords_1 : decode c_Dg_mixWords 1 = .ok (.getfield 13, 3) := by decide +kernel
theorem d_Dg_mixWords_4 : decode c_Dg_mixWords 4 = .ok (.iconst 0, 1) := by decide +kernel
theorem d_Dg_mixWords_5 : decode c_Dg_mixWords 5 = .ok (.iaload, 1) := by decide +kernel
theorem d_Dg_mixWords_6 : decode c_Dg_mixWords 6 = .ok (.istore_n 1, 1) := by decide +kernel
theorem d_Dg_mixWords_7 : decode c_Dg_mixWords 7 = .ok (.aload_n 0, 1) := by decide +kernel
theorem d_Dg_mixWords_8 : decode c_Dg_mixWords 8 = .ok (.getfield 13, 3) := by decide +kernel
theorem d_Dg_mixWords_11 : decode c_Dg_mixWords 11 = .ok (.iconst 1, 1) := by decide +kernel
theorem d_Dg_mixWords_12 : decode c_Dg_mixWords 12 = .ok (.iaload, 1) := by decide +kernel
theorem d_Dg_mixWords_13 : decode c_Dg_mixWords 13 = .ok (.istore_n 2, 1) := by decide +kernel
theorem d_Dg_mixWords_14 : decode c_Dg_mixWords 14 = .ok (.aload_n 0, 1) := by decide +kernel
theorem d_Dg_mixWords_15 : decode c_Dg_mixWords 15 = .ok (.getfield 13, 3) := by decide +kernel
theorem d_Dg_mixWords_18 : decode c_Dg_mixWords 18 = .ok (.iconst 2, 1) := by decide +kernel
theorem d_Dg_mixWords_19 : decode c_Dg_mixWords 19 = .ok (.iaload, 1) := by decide +kernel
theorem d_Dg_mixWords_20 : decode c_Dg_mixWords 20 = .ok (.istore_n 3, 1) := by decide +kernel
theorem d_Dg_mixWords_21 : decode c_Dg_mixWords 21 = .ok (.aload_n 0, 1) := by decide +kernel
theorem d_Dg_mixWords_22 : decode c_Dg_mixWords 22 = .ok (.getfield 13, 3) := by decide +kernel
theorem d_Dg_mixWords_25 : decode c_Dg_mixWords 25 = .ok (.iconst 3, 1) := by decide +kernel
theorem d_Dg_mixWords_26 : decode c_Dg_mixWords 26 = .ok (.iaload, 1) := by decide +kernel
theorem d_Dg_mixWords_27 : decode c_Dg_mixWords 27 = .ok (.istore 4, 2) := by decide +kernel
theorem d_Dg_mixWords_29 : decode c_Dg_mixWords 29 = .ok (.aload_n 0, 1) := by decide +kernel
theorem d_Dg_mixWords_30 : decode c_Dg_mixWords 30 = .ok (.getfield 13, 3) := by decide +kernel
theorem d_Dg_mixWords_33 : decode c_Dg_mixWords 33 = .ok (.iconst 4, 1) := by decide +kernel
theorem d_Dg_mixWords_34 : decode c_Dg_mixWords 34 = .ok (.iaload, 1) := by decide +kernel
theorem d_Dg_mixWords_35 : decode c_Dg_mixWords 35 = .ok (.istore 5, 2) := by decide +kernel
theorem d_Dg_mixWords_37 : decode c_Dg_mixWords 37 = .ok (.aload_n 0, 1) := by decide +kernel
theorem d_Dg_mixWords_38 : decode c_Dg_mixWords 38 = .ok (.getfield 13, 3) := by decide +kernel
theorem d_Dg_mixWords_41 : decode c_Dg_mixWords 41 = .ok (.iconst 5, 1) := by decide +kernel
theorem d_Dg_mixWords_42 : decode c_Dg_mixWords 42 = .ok (.iaload, 1) := by decide +kernel
theorem d_Dg_mixWords_43 : decode c_Dg_mixWords 43 = .ok (.istore 6, 2) := by decide +kernel
theorem d_Dg_mixWords_45 : decode c_Dg_mixWords 45 = .ok (.aload_n 0, 1) := by decide +kernel
theorem d_Dg_mixWords_46 : decode c_Dg_mixWords 46 = .ok (.getfield 13, 3) := by decide +kernel
theorem d_Dg_mixWords_49 : decode c_Dg_mixWords 49 = .ok (.bipush 6, 2) := by decide +kernel
theorem d_Dg_mixWords_51 : decode c_Dg_mixWords 51 = .ok (.iaload, 1) := by decide +kernel
theorem d_Dg_mixWords_52 : decode c_Dg_mixWords 52 = .ok (.istore 7, 2) := by decide +kernel
theorem d_Dg_mixWords_54 : decode c_Dg_mixWords 54 = .ok (.aload_n 0, 1) := by decide +kernel
theorem d_Dg_mixWords_55 : decode c_Dg_mixWords 55 = .ok (.getfield 13, 3) := by decide +kernel
theorem d_Dg_mixWords_58 : decode c_Dg_mixWords 58 = .ok (.bipush 7, 2) := by decide +kernel
theorem d_Dg_mixWords_60 : decode c_Dg_mixWords 60 = .ok (.iaload, 1) := by decide +kernel
theorem d_Dg_mixWords_61 : decode c_Dg_mixWords 61 = .ok (.istore 8, 2) := by decide +kernel
theorem d_Dg_mixWords_63 : decode c_Dg_mixWords 63 = .ok (.iconst 0, 1) := by decide +kernel
theorem d_Dg_mixWords_64 : decode c_Dg_mixWords 64 = .ok (.istore 9, 2) := by decide +kernel
theorem d_Dg_mixWords_66 : decode c_Dg_mixWords 66 = .ok (.iload 9, 2) := by decide +kernel
theorem d_Dg_mixWords_68 : decode c_Dg_mixWords 68 = .ok (.bipush 64, 2) := by decide +kernel
theorem d_Dg_mixWords_70 : decode c_Dg_mixWords 70 = .ok (.if_icmp .ge 139, 3) := by decide +kernel
theorem d_Dg_mixWords_73 : decode c_Dg_mixWords 73 = .ok (.iload 5, 2) := by decide +kernel
theorem d_Dg_mixWords_75 : decode c_Dg_mixWords 75 = .ok (.bipush 6, 2) := by decide +kernel
theorem d_Dg_mixWords_77 : decode c_Dg_mixWords 77 = .ok (.invokestatic 51, 3) := by decide +kernel
theorem d_Dg_mixWords_80 : decode c_Dg_mixWords 80 = .ok (.iload 5, 2) := by decide +kernel
theorem d_Dg_mixWords_82 : decode c_Dg_mixWords 82 = .ok (.bipush 11, 2) := by decide +kernel
theorem d_Dg_mixWords_84 : decode c_Dg_mixWords 84 = .ok (.invokestatic 51, 3) := by decide +kernel
theorem d_Dg_mixWords_87 : decode c_Dg_mixWords 87 = .ok (.ixor, 1) := by decide +kernel
theorem d_Dg_mixWords_88 : decode c_Dg_mixWords 88 = .ok (.iload 5, 2) := by decide +kernel
theorem d_Dg_mixWords_90 : decode c_Dg_mixWords 90 = .ok (.bipush 25, 2) := by decide +kernel
theorem d_Dg_mixWords_92 : decode c_Dg_mixWords 92 = .ok (.invokestatic 51, 3) := by decide +kernel
theorem d_Dg_mixWords_95 : decode c_Dg_mixWords 95 = .ok (.ixor, 1) := by decide +kernel
theorem d_Dg_mixWords_96 : decode c_Dg_mixWords 96 = .ok (.istore 10, 2) := by decide +kernel
theorem d_Dg_mixWords_98 : decode c_Dg_mixWords 98 = .ok (.iload_n 1, 1) := by decide +kernel
theorem d_Dg_mixWords_99 : decode c_Dg_mixWords 99 = .ok (.iconst 2, 1) := by decide +kernel
theorem d_Dg_mixWords_100 : decode c_Dg_mixWords 100 = .ok (.invokestatic 51, 3) := by decide +kernel
theorem d_Dg_mixWords_103 : decode c_Dg_mixWords 103 = .ok (.iload_n 1, 1) := by decide +kernel
theorem d_Dg_mixWords_104 : decode c_Dg_mixWords 104 = .ok (.bipush 13, 2) := by decide +kernel
theorem d_Dg_mixWords_106 : decode c_Dg_mixWords 106 = .ok (.invokestatic 51, 3) := by decide +kernel
theorem d_Dg_mixWords_109 : decode c_Dg_mixWords 109 = .ok (.ixor, 1) := by decide +kernel
theorem d_Dg_mixWords_110 : decode c_Dg_mixWords 110 = .ok (.iload_n 1, 1) := by decide +kernel
theorem d_Dg_mixWords_111 : decode c_Dg_mixWords 111 = .ok (.bipush 22, 2) := by decide +kernel
theorem d_Dg_mixWords_113 : decode c_Dg_mixWords 113 = .ok (.invokestatic 51, 3) := by decide +kernel
theorem d_Dg_mixWords_116 : decode c_Dg_mixWords 116 = .ok (.ixor, 1) := by decide +kernel
theorem d_Dg_mixWords_117 : decode c_Dg_mixWords 117 = .ok (.istore 11, 2) := by decide +kernel
theorem d_Dg_mixWords_119 : decode c_Dg_mixWords 119 = .ok (.iload 8, 2) := by decide +kernel
theorem d_Dg_mixWords_121 : decode c_Dg_mixWords 121 = .ok (.iload 10, 2) := by decide +kernel
theorem d_Dg_mixWords_123 : decode c_Dg_mixWords 123 = .ok (.iadd, 1) := by decide +kernel
theorem d_Dg_mixWords_124 : decode c_Dg_mixWords 124 = .ok (.iload 5, 2) := by decide +kernel
theorem d_Dg_mixWords_126 : decode c_Dg_mixWords 126 = .ok (.iload 6, 2) := by decide +kernel
theorem d_Dg_mixWords_128 : decode c_Dg_mixWords 128 = .ok (.iand, 1) := by decide +kernel
theorem d_Dg_mixWords_129 : decode c_Dg_mixWords 129 = .ok (.iload 5, 2) := by decide +kernel
theorem d_Dg_mixWords_131 : decode c_Dg_mixWords 131 = .ok (.iconst (-1), 1) := by decide +kernel
theorem d_Dg_mixWords_132 : decode c_Dg_mixWords 132 = .ok (.ixor, 1) := by decide +kernel
theorem d_Dg_mixWords_133 : decode c_Dg_mixWords 133 = .ok (.iload 7, 2) := by decide +kernel
theorem d_Dg_mixWords_135 : decode c_Dg_mixWords 135 = .ok (.iand, 1) := by decide +kernel
theorem d_Dg_mixWords_136 : decode c_Dg_mixWords 136 = .ok (.ixor, 1) := by decide +kernel
theorem d_Dg_mixWords_137 : decode c_Dg_mixWords 137 = .ok (.iadd, 1) := by decide +kernel
theorem d_Dg_mixWords_138 : decode c_Dg_mixWords 138 = .ok (.getstatic 57, 3) := by decide +kernel
theorem d_Dg_mixWords_141 : decode c_Dg_mixWords 141 = .ok (.iload 9, 2) := by decide +kernel
theorem d_Dg_mixWords_143 : decode c_Dg_mixWords 143 = .ok (.iaload, 1) := by decide +kernel
theorem d_Dg_mixWords_144 : decode c_Dg_mixWords 144 = .ok (.iadd, 1) := by decide +kernel
theorem d_Dg_mixWords_145 : decode c_Dg_mixWords 145 = .ok (.aload_n 0, 1) := by decide +kernel
theorem d_Dg_mixWords_146 : decode c_Dg_mixWords 146 = .ok (.getfield 16, 3) := by decide +kernel
theorem d_Dg_mixWords_149 : decode c_Dg_mixWords 149 = .ok (.iload 9, 2) := by decide +kernel
theorem d_Dg_mixWords_151 : decode c_Dg_mixWords 151 = .ok (.iaload, 1) := by decide +kernel
theorem d_Dg_mixWords_152 : decode c_Dg_mixWords 152 = .ok (.iadd, 1) := by decide +kernel
theorem d_Dg_mixWords_153 : decode c_Dg_mixWords 153 = .ok (.istore 12, 2) := by decide +kernel
theorem d_Dg_mixWords_155 : decode c_Dg_mixWords 155 = .ok (.iload 11, 2) := by decide +kernel
theorem d_Dg_mixWords_157 : decode c_Dg_mixWords 157 = .ok (.iload_n 1, 1) := by decide +kernel
theorem d_Dg_mixWords_158 : decode c_Dg_mixWords 158 = .ok (.iload_n 2, 1) := by decide +kernel
theorem d_Dg_mixWords_159 : decode c_Dg_mixWords 159 = .ok (.iand, 1) := by decide +kernel
theorem d_Dg_mixWords_160 : decode c_Dg_mixWords 160 = .ok (.iload_n 1, 1) := by decide +kernel
theorem d_Dg_mixWords_161 : decode c_Dg_mixWords 161 = .ok (.iload_n 3, 1) := by decide +kernel
theorem d_Dg_mixWords_162 : decode c_Dg_mixWords 162 = .ok (.iand, 1) := by decide +kernel
theorem d_Dg_mixWords_163 : decode c_Dg_mixWords 163 = .ok (.ixor, 1) := by decide +kernel
theorem d_Dg_mixWords_164 : decode c_Dg_mixWords 164 = .ok (.iload_n 2, 1) := by decide +kernel
theorem d_Dg_mixWords_165 : decode c_Dg_mixWords 165 = .ok (.iload_n 3, 1) := by decide +kernel
theorem d_Dg_mixWords_166 : decode c_Dg_mixWords 166 = .ok (.iand, 1) := by decide +kernel
theorem d_Dg_mixWords_167 : decode c_Dg_mixWords 167 = .ok (.ixor, 1) := by decide +kernel
theorem d_Dg_mixWords_168 : decode c_Dg_mixWords 168 = .ok (.iadd, 1) := by decide +kernel
theorem d_Dg_mixWords_169 : decode c_Dg_mixWords 169 = .ok (.istore 13, 2) := by decide +kernel
theorem d_Dg_mixWords_171 : decode c_Dg_mixWords 171 = .ok (.iload 7, 2) := by decide +kernel
theorem d_Dg_mixWords_173 : decode c_Dg_mixWords 173 = .ok (.istore 8, 2) := by decide +kernel
theorem d_Dg_mixWords_175 : decode c_Dg_mixWords 175 = .ok (.iload 6, 2) := by decide +kernel
theorem d_Dg_mixWords_177 : decode c_Dg_mixWords 177 = .ok (.istore 7, 2) := by decide +kernel
theorem d_Dg_mixWords_179 : decode c_Dg_mixWords 179 = .ok (.iload 5, 2) := by decide +kernel
theorem d_Dg_mixWords_181 : decode c_Dg_mixWords 181 = .ok (.istore 6, 2) := by decide +kernel
theorem d_Dg_mixWords_183 : decode c_Dg_mixWords 183 = .ok (.iload 4, 2) := by decide +kernel
theorem d_Dg_mixWords_185 : decode c_Dg_mixWords 185 = .ok (.iload 12, 2) := by decide +kernel
theorem d_Dg_mixWords_187 : decode c_Dg_mixWords 187 = .ok (.iadd, 1) := by decide +kernel
theorem d_Dg_mixWords_188 : decode c_Dg_mixWords 188 = .ok (.istore 5, 2) := by decide +kernel
theorem d_Dg_mixWords_190 : decode c_Dg_mixWords 190 = .ok (.iload_n 3, 1) := by decide +kernel
theorem d_Dg_mixWords_191 : decode c_Dg_mixWords 191 = .ok (.istore 4, 2) := by decide +kernel
theorem d_Dg_mixWords_193 : decode c_Dg_mixWords 193 = .ok (.iload_n 2, 1) := by decide +kernel
theorem d_Dg_mixWords_194 : decode c_Dg_mixWords 194 = .ok (.istore_n 3, 1) := by decide +kernel
theorem d_Dg_mixWords_195 : decode c_Dg_mixWords 195 = .ok (.iload_n 1, 1) := by decide +kernel
theorem d_Dg_mixWords_196 : decode c_Dg_mixWords 196 = .ok (.istore_n 2, 1) := by decide +kernel
theorem d_Dg_mixWords_197 : decode c_Dg_mixWords 197 = .ok (.iload 12, 2) := by decide +kernel
theorem d_Dg_mixWords_199 : decode c_Dg_mixWords 199 = .ok (.iload 13, 2) := by decide +kernel
theorem d_Dg_mixWords_201 : decode c_Dg_mixWords 201 = .ok (.iadd, 1) := by decide +kernel
theorem d_Dg_mixWords_202 : decode c_Dg_mixWords 202 = .ok (.istore_n 1, 1) := by decide +kernel
theorem d_Dg_mixWords_203 : decode c_Dg_mixWords 203 = .ok (.iinc 9 1, 3) := by decide +kernel
theorem d_Dg_mixWords_206 : decode c_Dg_mixWords 206 = .ok (.goto (-140), 3) := by decide +kernel
theorem d_Dg_mixWords_209 : decode c_Dg_mixWords 209 = .ok (.aload_n 0, 1) := by decide +kernel
theorem d_Dg_mixWords_210 : decode c_Dg_mixWords 210 = .ok (.getfield 13, 3) := by decide +kernel
theorem d_Dg_mixWords_213 : decode c_Dg_mixWords 213 = .ok (.iconst 0, 1) := by decide +kernel
theorem d_Dg_mixWords_214 : decode c_Dg_mixWords 214 = .ok (.dup2, 1) := by decide +kernel
theorem d_Dg_mixWords_215 : decode c_Dg_mixWords 215 = .ok (.iaload, 1) := by decide +kernel
theorem d_Dg_mixWords_216 : decode c_Dg_mixWords 216 = .ok (.iload_n 1, 1) := by decide +kernel
theorem d_Dg_mixWords_217 : decode c_Dg_mixWords 217 = .ok (.iadd, 1) := by decide +kernel
theorem d_Dg_mixWords_218 : decode c_Dg_mixWords 218 = .ok (.iastore, 1) := by decide +kernel
theorem d_Dg_mixWords_219 : decode c_Dg_mixWords 219 = .ok (.aload_n 0, 1) := by decide +kernel
theorem d_Dg_mixWords_220 : decode c_Dg_mixWords 220 = .ok (.getfield 13, 3) := by decide +kernel
theorem d_Dg_mixWords_223 : decode c_Dg_mixWords 223 = .ok (.iconst 1, 1) := by decide +kernel
theorem d_Dg_mixWords_224 : decode c_Dg_mixWords 224 = .ok (.dup2, 1) := by decide +kernel
theorem d_Dg_mixWords_225 : decode c_Dg_mixWords 225 = .ok (.iaload, 1) := by decide +kernel
theorem d_Dg_mixWords_226 : decode c_Dg_mixWords 226 = .ok (.iload_n 2, 1) := by decide +kernel
theorem d_Dg_mixWords_227 : decode c_Dg_mixWords 227 = .ok (.iadd, 1) := by decide +kernel
theorem d_Dg_mixWords_228 : decode c_Dg_mixWords 228 = .ok (.iastore, 1) := by decide +kernel
theorem d_Dg_mixWords_229 : decode c_Dg_mixWords 229 = .ok (.aload_n 0, 1) := by decide +kernel
theorem d_Dg_mixWords_230 : decode c_Dg_mixWords 230 = .ok (.getfield 13, 3) := by decide +kernel
theorem d_Dg_mixWords_233 : decode c_Dg_mixWords 233 = .ok (.iconst 2, 1) := by decide +kernel
theorem d_Dg_mixWords_234 : decode c_Dg_mixWords 234 = .ok (.dup2, 1) := by decide +kernel
theorem d_Dg_mixWords_235 : decode c_Dg_mixWords 235 = .ok (.iaload, 1) := by decide +kernel
theorem d_Dg_mixWords_236 : decode c_Dg_mixWords 236 = .ok (.iload_n 3, 1) := by decide +kernel
theorem d_Dg_mixWords_237 : decode c_Dg_mixWords 237 = .ok (.iadd, 1) := by decide +kernel
theorem d_Dg_mixWords_238 : decode c_Dg_mixWords 238 = .ok (.iastore, 1) := by decide +kernel
theorem d_Dg_mixWords_239 : decode c_Dg_mixWords 239 = .ok (.aload_n 0, 1) := by decide +kernel
theorem d_Dg_mixWords_240 : decode c_Dg_mixWords 240 = .ok (.getfield 13, 3) := by decide +kernel
theorem d_Dg_mixWords_243 : decode c_Dg_mixWords 243 = .ok (.iconst 3, 1) := by decide +kernel
theorem d_Dg_mixWords_244 : decode c_Dg_mixWords 244 = .ok (.dup2, 1) := by decide +kernel
theorem d_Dg_mixWords_245 : decode c_Dg_mixWords 245 = .ok (.iaload, 1) := by decide +kernel
theorem d_Dg_mixWords_246 : decode c_Dg_mixWords 246 = .ok (.iload 4, 2) := by decide +kernel
theorem d_Dg_mixWords_248 : decode c_Dg_mixWords 248 = .ok (.iadd, 1) := by decide +kernel
theorem d_Dg_mixWords_249 : decode c_Dg_mixWords 249 = .ok (.iastore, 1) := by decide +kernel
theorem d_Dg_mixWords_250 : decode c_Dg_mixWords 250 = .ok (.aload_n 0, 1) := by decide +kernel
theorem d_Dg_mixWords_251 : decode c_Dg_mixWords 251 = .ok (.getfield 13, 3) := by decide +kernel
theorem d_Dg_mixWords_254 : decode c_Dg_mixWords 254 = .ok (.iconst 4, 1) := by decide +kernel
theorem d_Dg_mixWords_255 : decode c_Dg_mixWords 255 = .ok (.dup2, 1) := by decide +kernel
theorem d_Dg_mixWords_256 : decode c_Dg_mixWords 256 = .ok (.iaload, 1) := by decide +kernel
theorem d_Dg_mixWords_257 : decode c_Dg_mixWords 257 = .ok (.iload 5, 2) := by decide +kernel
theorem d_Dg_mixWords_259 : decode c_Dg_mixWords 259 = .ok (.iadd, 1) := by decide +kernel
theorem d_Dg_mixWords_260 : decode c_Dg_mixWords 260 = .ok (.iastore, 1) := by decide +kernel
theorem d_Dg_mixWords_261 : decode c_Dg_mixWords 261 = .ok (.aload_n 0, 1) := by decide +kernel
theorem d_Dg_mixWords_262 : decode c_Dg_mixWords 262 = .ok (.getfield 13, 3) := by decide +kernel
theorem d_Dg_mixWords_265 : decode c_Dg_mixWords 265 = .ok (.iconst 5, 1) := by decide +kernel
theorem d_Dg_mixWords_266 : decode c_Dg_mixWords 266 = .ok (.dup2, 1) := by decide +kernel
theorem d_Dg_mixWords_267 : decode c_Dg_mixWords 267 = .ok (.iaload, 1) := by decide +kernel
theorem d_Dg_mixWords_268 : decode c_Dg_mixWords 268 = .ok (.iload 6, 2) := by decide +kernel
theorem d_Dg_mixWords_270 : decode c_Dg_mixWords 270 = .ok (.iadd, 1) := by decide +kernel
theorem d_Dg_mixWords_271 : decode c_Dg_mixWords 271 = .ok (.iastore, 1) := by decide +kernel
theorem d_Dg_mixWords_272 : decode c_Dg_mixWords 272 = .ok (.aload_n 0, 1) := by decide +kernel
theorem d_Dg_mixWords_273 : decode c_Dg_mixWords 273 = .ok (.getfield 13, 3) := by decide +kernel
theorem d_Dg_mixWords_276 : decode c_Dg_mixWords 276 = .ok (.bipush 6, 2) := by decide +kernel
theorem d_Dg_mixWords_278 : decode c_Dg_mixWords 278 = .ok (.dup2, 1) := by decide +kernel
theorem d_Dg_mixWords_279 : decode c_Dg_mixWords 279 = .ok (.iaload, 1) := by decide +kernel
theorem d_Dg_mixWords_280 : decode c_Dg_mixWords 280 = .ok (.iload 7, 2) := by decide +kernel
theorem d_Dg_mixWords_282 : decode c_Dg_mixWords 282 = .ok (.iadd, 1) := by decide +kernel
theorem d_Dg_mixWords_283 : decode c_Dg_mixWords 283 = .ok (.iastore, 1) := by decide +kernel
theorem d_Dg_mixWords_284 : decode c_Dg_mixWords 284 = .ok (.aload_n 0, 1) := by decide +kernel
theorem d_Dg_mixWords_285 : decode c_Dg_mixWords 285 = .ok (.getfield 13, 3) := by decide +kernel
theorem d_Dg_mixWords_288 : decode c_Dg_mixWords 288 = .ok (.bipush 7, 2) := by decide +kernel
theorem d_Dg_mixWords_290 : decode c_Dg_mixWords 290 = .ok (.dup2, 1) := by decide +kernel
theorem d_Dg_mixWords_291 : decode c_Dg_mixWords 291 = .ok (.iaload, 1) := by decide +kernel
theorem d_Dg_mixWords_292 : decode c_Dg_mixWords 292 = .ok (.iload 8, 2) := by decide +kernel
theorem d_Dg_mixWords_294 : decode c_Dg_mixWords 294 = .ok (.iadd, 1) := by decide +kernel
theorem d_Dg_mixWords_295 : decode c_Dg_mixWords 295 = .ok (.iastore, 1) := by decide +kernel
theorem d_Dg_mixWords_296 : decode c_Dg_mixWords 296 = .ok (.return_, 1) := by decide +kernel
theorem d_Dg_handOut_0 : decode c_Dg_handOut 0 = .ok (.iconst 0, 1) := by decide +kernel
theorem d_Dg_handOut_1 : decode c_Dg_handOut 1 = .ok (.istore_n 3, 1) := by decide +kernel
theorem d_Dg_handOut_2 : decode c_Dg_handOut 2 = .ok (.iload_n 3, 1) := by decide +kernel
theorem d_Dg_handOut_3 : decode c_Dg_handOut 3 = .ok (.bipush 32, 2) := by decide +kernel
theorem d_Dg_handOut_5 : decode c_Dg_handOut 5 = .ok (.if_icmp .ge 36, 3) := by decide +kernel
theorem d_Dg_handOut_8 : decode c_Dg_handOut 8 = .ok (.aload_n 1, 1) := by decide +kernel
theorem d_Dg_handOut_9 : decode c_Dg_handOut 9 = .ok (.iload_n 2, 1) := by decide +kernel
theorem d_Dg_handOut_10 : decode c_Dg_handOut 10 = .ok (.iload_n 3, 1) := by decide +kernel
theorem d_Dg_handOut_11 : decode c_Dg_handOut 11 = .ok (.iadd, 1) := by decide +kernel
theorem d_Dg_handOut_12 : decode c_Dg_handOut 12 = .ok (.aload_n 0, 1) := by decide +kernel
theorem d_Dg_handOut_13 : decode c_Dg_handOut 13 = .ok (.getfield 13, 3) := by decide +kernel
theorem d_Dg_handOut_16 : decode c_Dg_handOut 16 = .ok (.iload_n 3, 1) := by decide +kernel
theorem d_Dg_handOut_17 : decode c_Dg_handOut 17 = .ok (.iconst 4, 1) := by decide +kernel
theorem d_Dg_handOut_18 : decode c_Dg_handOut 18 = .ok (.idiv, 1) := by decide +kernel
theorem d_Dg_handOut_19 : decode c_Dg_handOut 19 = .ok (.iaload, 1) := by decide +kernel
theorem d_Dg_handOut_20 : decode c_Dg_handOut 20 = .ok (.bipush 24, 2) := by decide +kernel
theorem d_Dg_handOut_22 : decode c_Dg_handOut 22 = .ok (.bipush 8, 2) := by decide +kernel
theorem d_Dg_handOut_24 : decode c_Dg_handOut 24 = .ok (.iload_n 3, 1) := by decide +kernel
theorem d_Dg_handOut_25 : decode c_Dg_handOut 25 = .ok (.iconst 4, 1) := by decide +kernel
theorem d_Dg_handOut_26 : decode c_Dg_handOut 26 = .ok (.irem, 1) := by decide +kernel
theorem d_Dg_handOut_27 : decode c_Dg_handOut 27 = .ok (.imul, 1) := by decide +kernel
theorem d_Dg_handOut_28 : decode c_Dg_handOut 28 = .ok (.isub, 1) := by decide +kernel
theorem d_Dg_handOut_29 : decode c_Dg_handOut 29 = .ok (.iushr, 1) := by decide +kernel
theorem d_Dg_handOut_30 : decode c_Dg_handOut 30 = .ok (.sipush 255, 3) := by decide +kernel
theorem d_Dg_handOut_33 : decode c_Dg_handOut 33 = .ok (.iand, 1) := by decide +kernel
theorem d_Dg_handOut_34 : decode c_Dg_handOut 34 = .ok (.iastore, 1) := by decide +kernel
theorem d_Dg_handOut_35 : decode c_Dg_handOut 35 = .ok (.iinc 3 1, 3) := by decide +kernel
theorem d_Dg_handOut_38 : decode c_Dg_handOut 38 = .ok (.goto (-36), 3) := by decide +kernel
theorem d_Dg_handOut_41 : decode c_Dg_handOut 41 = .ok (.return_, 1) := by decide +kernel
theorem d_Dk_new_0 : decode c_Dk_new 0 = .ok (.aload_n 0, 1) := by decide +kernel
theorem d_Dk_new_1 : decode c_Dk_new 1 = .ok (.invokespecial 3, 3) := by decide +kernel
theorem d_Dk_new_4 : decode c_Dk_new 4 = .ok (.aload_n 0, 1) := by decide +kernel
theorem d_Dk_new_5 : decode c_Dk_new 5 = .ok (.sipush 129, 3) := by decide +kernel
theorem d_Dk_new_8 : decode c_Dk_new 8 = .ok (.newarray .int, 2) := by decide +kernel
theorem d_Dk_new_10 : decode c_Dk_new 10 = .ok (.putfield 9, 3) := by decide +kernel
theorem d_Dk_new_13 : decode c_Dk_new 13 = .ok (.aload_n 0, 1) := by decide +kernel
theorem d_Dk_new_14 : decode c_Dk_new 14 = .ok (.iconst 0, 1) := by decide +kernel
theorem d_Dk_new_15 : decode c_Dk_new 15 = .ok (.putfield 15, 3) := by decide +kernel
theorem d_Dk_new_18 : decode c_Dk_new 18 = .ok (.aload_n 0, 1) := by decide +kernel
theorem d_Dk_new_19 : decode c_Dk_new 19 = .ok (.iconst 0, 1) := by decide +kernel
theorem d_Dk_new_20 : decode c_Dk_new 20 = .ok (.putfield 19, 3) := by decide +kernel
theorem d_Dk_new_23 : decode c_Dk_new 23 = .ok (.return_, 1) := by decide +kernel
theorem d_Dk_tellCrash_0 : decode c_Dk_tellCrash 0 = .ok (.aload_n 0, 1) := by decide +kernel
theorem d_Dk_tellCrash_1 : decode c_Dk_tellCrash 1 = .ok (.iload_n 1, 1) := by decide +kernel
theorem d_Dk_tellCrash_2 : decode c_Dk_tellCrash 2 = .ok (.iconst 1, 1) := by decide +kernel
theorem d_Dk_tellCrash_3 : decode c_Dk_tellCrash 3 = .ok (.if_icmp .ge 7, 3) := by decide +kernel
theorem d_Dk_tellCrash_6 : decode c_Dk_tellCrash 6 = .ok (.iconst 0, 1) := by decide +kernel
theorem d_Dk_tellCrash_7 : decode c_Dk_tellCrash 7 = .ok (.goto 4, 3) := by decide +kernel
theorem d_Dk_tellCrash_10 : decode c_Dk_tellCrash 10 = .ok (.iload_n 1, 1) := by decide +kernel
theorem d_Dk_tellCrash_11 : decode c_Dk_tellCrash 11 = .ok (.putfield 19, 3) := by decide +kernel
theorem d_Dk_tellCrash_14 : decode c_Dk_tellCrash 14 = .ok (.return_, 1) := by decide +kernel
theorem d_Dk_seedPlace_0 : decode c_Dk_seedPlace 0 = .ok (.aload_n 0, 1) := by decide +kernel
theorem d_Dk_seedPlace_1 : decode c_Dk_seedPlace 1 = .ok (.getfield 9, 3) := by decide +kernel
theorem d_Dk_seedPlace_4 : decode c_Dk_seedPlace 4 = .ok (.iconst 0, 1) := by decide +kernel
theorem d_Dk_seedPlace_5 : decode c_Dk_seedPlace 5 = .ok (.iaload, 1) := by decide +kernel
theorem d_Dk_seedPlace_6 : decode c_Dk_seedPlace 6 = .ok (.lookupswitch 31 #[(1, 26), (2, 28)], 26) := by decide +kernel
theorem d_Dk_seedPlace_32 : decode c_Dk_seedPlace 32 = .ok (.iconst 1, 1) := by decide +kernel
theorem d_Dk_seedPlace_33 : decode c_Dk_seedPlace 33 = .ok (.ireturn, 1) := by decide +kernel
theorem d_Dk_seedPlace_34 : decode c_Dk_seedPlace 34 = .ok (.bipush 65, 2) := by decide +kernel
theorem d_Dk_seedPlace_36 : decode c_Dk_seedPlace 36 = .ok (.ireturn, 1) := by decide +kernel
theorem d_Dk_seedPlace_37 : decode c_Dk_seedPlace 37 = .ok (.iconst 0, 1) := by decide +kernel
theorem d_Dk_seedPlace_38 : decode c_Dk_seedPlace 38 = .ok (.ireturn, 1) := by decide +kernel
theorem d_Dk_store_0 : decode c_Dk_store 0 = .ok (.aload_n 0, 1) := by decide +kernel
theorem d_Dk_store_1 : decode c_Dk_store 1 = .ok (.getfield 9, 3) := by decide +kernel
theorem d_Dk_store_4 : decode c_Dk_store 4 = .ok (.iconst 0, 1) := by decide +kernel
theorem d_Dk_store_5 : decode c_Dk_store 5 = .ok (.iaload, 1) := by decide +kernel
theorem d_Dk_store_6 : decode c_Dk_store 6 = .ok (.iconst 1, 1) := by decide +kernel
theorem d_Dk_store_7 : decode c_Dk_store 7 = .ok (.if_icmp .ne 7, 3) := by decide +kernel
theorem d_Dk_store_10 : decode c_Dk_store 10 = .ok (.iconst 1, 1) := by decide +kernel
theorem d_Dk_store_11 : decode c_Dk_store 11 = .ok (.goto 4, 3) := by decide +kernel
theorem d_Dk_store_14 : decode c_Dk_store 14 = .ok (.iconst 0, 1) := by decide +kernel
theorem d_Dk_store_15 : decode c_Dk_store 15 = .ok (.istore_n 2, 1) := by decide +kernel
theorem d_Dk_store_16 : decode c_Dk_store 16 = .ok (.iload_n 2, 1) := by decide +kernel
theorem d_Dk_store_17 : decode c_Dk_store 17 = .ok (.ifCond .eq 8, 3) := by decide +kernel
theorem d_Dk_store_20 : decode c_Dk_store 20 = .ok (.bipush 65, 2) := by decide +kernel
theorem d_Dk_store_22 : decode c_Dk_store 22 = .ok (.goto 4, 3) := by decide +kernel
theorem d_Dk_store_25 : decode c_Dk_store 25 = .ok (.iconst 1, 1) := by decide +kernel
theorem d_Dk_store_26 : decode c_Dk_store 26 = .ok (.istore_n 3, 1) := by decide +kernel
theorem d_Dk_store_27 : decode c_Dk_store 27 = .ok (.iconst 0, 1) := by decide +kernel
theorem d_Dk_store_28 : decode c_Dk_store 28 = .ok (.istore 4, 2) := by decide +kernel
theorem d_Dk_store_30 : decode c_Dk_store 30 = .ok (.iload 4, 2) := by decide +kernel
theorem d_Dk_store_32 : decode c_Dk_store 32 = .ok (.bipush 64, 2) := by decide +kernel
theorem d_Dk_store_34 : decode c_Dk_store 34 = .ok (.if_icmp .ge 26, 3) := by decide +kernel
theorem d_Dk_store_37 : decode c_Dk_store 37 = .ok (.aload_n 0, 1) := by decide +kernel
theorem d_Dk_store_38 : decode c_Dk_store 38 = .ok (.iload_n 3, 1) := by decide +kernel
theorem d_Dk_store_39 : decode c_Dk_store 39 = .ok (.iload 4, 2) := by decide +kernel
theorem d_Dk_store_41 : decode c_Dk_store 41 = .ok (.iadd, 1) := by decide +kernel
theorem d_Dk_store_42 : decode c_Dk_store 42 = .ok (.aload_n 1, 1) := by decide +kernel
theorem d_Dk_store_43 : decode c_Dk_store 43 = .ok (.iload 4, 2) := by decide +kernel
theorem d_Dk_store_45 : decode c_Dk_store 45 = .ok (.iaload, 1) := by decide +kernel
theorem d_Dk_store_46 : decode c_Dk_store 46 = .ok (.invokevirtual 22, 3) := by decide +kernel
theorem d_Dk_store_49 : decode c_Dk_store 49 = .ok (.ifCond .ne 5, 3) := by decide +kernel
theorem d_Dk_store_52 : decode c_Dk_store 52 = .ok (.iconst 0, 1) := by decide +kernel
theorem d_Dk_store_53 : decode c_Dk_store 53 = .ok (.ireturn, 1) := by decide +kernel
theorem d_Dk_store_54 : decode c_Dk_store 54 = .ok (.iinc 4 1, 3) := by decide +kernel
theorem d_Dk_store_57 : decode c_Dk_store 57 = .ok (.goto (-27), 3) := by decide +kernel
theorem d_Dk_store_60 : decode c_Dk_store 60 = .ok (.aload_n 0, 1) := by decide +kernel
theorem d_Dk_store_61 : decode c_Dk_store 61 = .ok (.iconst 0, 1) := by decide +kernel
theorem d_Dk_store_62 : decode c_Dk_store 62 = .ok (.iload_n 2, 1) := by decide +kernel
theorem d_Dk_store_63 : decode c_Dk_store 63 = .ok (.ifCond .eq 7, 3) := by decide +kernel
theorem d_Dk_store_66 : decode c_Dk_store 66 = .ok (.iconst 2, 1) := by decide +kernel
theorem d_Dk_store_67 : decode c_Dk_store 67 = .ok (.goto 4, 3) := by decide +kernel
theorem d_Dk_store_70 : decode c_Dk_store 70 = .ok (.iconst 1, 1) := by decide +kernel
theorem d_Dk_store_71 : decode c_Dk_store 71 = .ok (.invokevirtual 22, 3) := by decide +kernel
theorem d_Dk_store_74 : decode c_Dk_store 74 = .ok (.ireturn, 1) := by decide +kernel
theorem d_Dk_write_0 : decode c_Dk_write 0 = .ok (.aload_n 0, 1) := by decide +kernel
theorem d_Dk_write_1 : decode c_Dk_write 1 = .ok (.getfield 19, 3) := by decide +kernel
theorem d_Dk_write_4 : decode c_Dk_write 4 = .ok (.iconst 1, 1) := by decide +kernel
theorem d_Dk_write_5 : decode c_Dk_write 5 = .ok (.if_icmp .ne 10, 3) := by decide +kernel
theorem d_Dk_write_8 : decode c_Dk_write 8 = .ok (.aload_n 0, 1) := by decide +kernel
theorem d_Dk_write_9 : decode c_Dk_write 9 = .ok (.iconst 0, 1) := by decide +kernel
theorem d_Dk_write_10 : decode c_Dk_write 10 = .ok (.putfield 19, 3) := by decide +kernel
theorem d_Dk_write_13 : decode c_Dk_write 13 = .ok (.iconst 0, 1) := by decide +kernel
theorem d_Dk_write_14 : decode c_Dk_write 14 = .ok (.ireturn, 1) := by decide +kernel
theorem d_Dk_write_15 : decode c_Dk_write 15 = .ok (.aload_n 0, 1) := by decide +kernel
theorem d_Dk_write_16 : decode c_Dk_write 16 = .ok (.getfield 19, 3) := by decide +kernel
theorem d_Dk_write_19 : decode c_Dk_write 19 = .ok (.iconst 1, 1) := by decide +kernel
theorem d_Dk_write_20 : decode c_Dk_write 20 = .ok (.if_icmp .le 13, 3) := by decide +kernel
theorem d_Dk_write_23 : decode c_Dk_write 23 = .ok (.aload_n 0, 1) := by decide +kernel
theorem d_Dk_write_24 : decode c_Dk_write 24 = .ok (.dup, 1) := by decide +kernel
theorem d_Dk_write_25 : decode c_Dk_write 25 = .ok (.getfield 19, 3) := by decide +kernel
theorem d_Dk_write_28 : decode c_Dk_write 28 = .ok (.iconst 1, 1) := by decide +kernel
theorem d_Dk_write_29 : decode c_Dk_write 29 = .ok (.isub, 1) := by decide +kernel
theorem d_Dk_write_30 : decode c_Dk_write 30 = .ok (.putfield 19, 3) := by decide +kernel
theorem d_Dk_write_33 : decode c_Dk_write 33 = .ok (.aload_n 0, 1) := by decide +kernel
theorem d_Dk_write_34 : decode c_Dk_write 34 = .ok (.getfield 9, 3) := by decide +kernel
theorem d_Dk_write_37 : decode c_Dk_write 37 = .ok (.iload_n 1, 1) := by decide +kernel
theorem d_Dk_write_38 : decode c_Dk_write 38 = .ok (.iload_n 2, 1) := by decide +kernel
theorem d_Dk_write_39 : decode c_Dk_write 39 = .ok (.iastore, 1) := by decide +kernel
theorem d_Dk_write_40 : decode c_Dk_write 40 = .ok (.aload_n 0, 1) := by decide +kernel
theorem d_Dk_write_41 : decode c_Dk_write 41 = .ok (.dup, 1) := by decide +kernel
theorem d_Dk_write_42 : decode c_Dk_write 42 = .ok (.getfield 15, 3) := by decide +kernel
theorem d_Dk_write_45 : decode c_Dk_write 45 = .ok (.iconst 1, 1) := by decide +kernel
theorem d_Dk_write_46 : decode c_Dk_write 46 = .ok (.iadd, 1) := by decide +kernel
theorem d_Dk_write_47 : decode c_Dk_write 47 = .ok (.putfield 15, 3) := by decide +kernel
theorem d_Dk_write_50 : decode c_Dk_write 50 = .ok (.iconst 1, 1) := by decide +kernel
theorem d_Dk_write_51 : decode c_Dk_write 51 = .ok (.ireturn, 1) := by decide +kernel
theorem d_Ge_new_0 : decode c_Ge_new 0 = .ok (.aload_n 0, 1) := by decide +kernel
theorem d_Ge_new_1 : decode c_Ge_new 1 = .ok (.invokespecial 3, 3) := by decide +kernel
theorem d_Ge_new_4 : decode c_Ge_new 4 = .ok (.aload_n 0, 1) := by decide +kernel
theorem d_Ge_new_5 : decode c_Ge_new 5 = .ok (.bipush 16, 2) := by decide +kernel
theorem d_Ge_new_7 : decode c_Ge_new 7 = .ok (.newarray .int, 2) := by decide +kernel
theorem d_Ge_new_9 : decode c_Ge_new 9 = .ok (.putfield 11, 3) := by decide +kernel
theorem d_Ge_new_12 : decode c_Ge_new 12 = .ok (.aload_n 0, 1) := by decide +kernel
theorem d_Ge_new_13 : decode c_Ge_new 13 = .ok (.bipush 16, 2) := by decide +kernel
theorem d_Ge_new_15 : decode c_Ge_new 15 = .ok (.newarray .int, 2) := by decide +kernel
theorem d_Ge_new_17 : decode c_Ge_new 17 = .ok (.putfield 17, 3) := by decide +kernel
theorem d_Ge_new_20 : decode c_Ge_new 20 = .ok (.aload_n 0, 1) := by decide +kernel
theorem d_Ge_new_21 : decode c_Ge_new 21 = .ok (.bipush 32, 2) := by decide +kernel
theorem d_Ge_new_23 : decode c_Ge_new 23 = .ok (.anewarray 20, 3) := by decide +kernel
theorem d_Ge_new_26 : decode c_Ge_new 26 = .ok (.putfield 22, 3) := by decide +kernel
theorem d_Ge_new_29 : decode c_Ge_new 29 = .ok (.iconst 0, 1) := by decide +kernel
theorem d_Ge_new_30 : decode c_Ge_new 30 = .ok (.istore_n 1, 1) := by decide +kernel
theorem d_Ge_new_31 : decode c_Ge_new 31 = .ok (.iload_n 1, 1) := by decide +kernel
theorem d_Ge_new_32 : decode c_Ge_new 32 = .ok (.bipush 32, 2) := by decide +kernel
theorem d_Ge_new_34 : decode c_Ge_new 34 = .ok (.if_icmp .ge 22, 3) := by decide +kernel
theorem d_Ge_new_37 : decode c_Ge_new 37 = .ok (.aload_n 0, 1) := by decide +kernel
theorem d_Ge_new_38 : decode c_Ge_new 38 = .ok (.getfield 22, 3) := by decide +kernel
theorem d_Ge_new_41 : decode c_Ge_new 41 = .ok (.iload_n 1, 1) := by decide +kernel
theorem d_Ge_new_42 : decode c_Ge_new 42 = .ok (.new 20, 3) := by decide +kernel
theorem d_Ge_new_45 : decode c_Ge_new 45 = .ok (.dup, 1) := by decide +kernel
theorem d_Ge_new_46 : decode c_Ge_new 46 = .ok (.invokespecial 26, 3) := by decide +kernel
theorem d_Ge_new_49 : decode c_Ge_new 49 = .ok (.aastore, 1) := by decide +kernel
theorem d_Ge_new_50 : decode c_Ge_new 50 = .ok (.iinc 1 1, 3) := by decide +kernel
theorem d_Ge_new_53 : decode c_Ge_new 53 = .ok (.goto (-22), 3) := by decide +kernel
theorem d_Ge_new_56 : decode c_Ge_new 56 = .ok (.aload_n 0, 1) := by decide +kernel
theorem d_Ge_new_57 : decode c_Ge_new 57 = .ok (.iconst 0, 1) := by decide +kernel
theorem d_Ge_new_58 : decode c_Ge_new 58 = .ok (.putfield 27, 3) := by decide +kernel
theorem d_Ge_new_61 : decode c_Ge_new 61 = .ok (.aload_n 0, 1) := by decide +kernel
theorem d_Ge_new_62 : decode c_Ge_new 62 = .ok (.iconst 0, 1) := by decide +kernel
theorem d_Ge_new_63 : decode c_Ge_new 63 = .ok (.putfield 31, 3) := by decide +kernel
theorem d_Ge_new_66 : decode c_Ge_new 66 = .ok (.aload_n 0, 1) := by decide +kernel
theorem d_Ge_new_67 : decode c_Ge_new 67 = .ok (.iconst (-1), 1) := by decide +kernel
theorem d_Ge_new_68 : decode c_Ge_new 68 = .ok (.putfield 34, 3) := by decide +kernel
theorem d_Ge_new_71 : decode c_Ge_new 71 = .ok (.aload_n 0, 1) := by decide +kernel
theorem d_Ge_new_72 : decode c_Ge_new 72 = .ok (.new 37, 3) := by decide +kernel
theorem d_Ge_new_75 : decode c_Ge_new 75 = .ok (.dup, 1) := by decide +kernel
theorem d_Ge_new_76 : decode c_Ge_new 76 = .ok (.invokespecial 39, 3) := by decide +kernel
theorem d_Ge_new_79 : decode c_Ge_new 79 = .ok (.putfield 40, 3) := by decide +kernel
theorem d_Ge_new_82 : decode c_Ge_new 82 = .ok (.aload_n 0, 1) := by decide +kernel
theorem d_Ge_new_83 : decode c_Ge_new 83 = .ok (.new 9, 3) := by decide +kernel
theorem d_Ge_new_86 : decode c_Ge_new 86 = .ok (.dup, 1) := by decide +kernel
theorem d_Ge_new_87 : decode c_Ge_new 87 = .ok (.invokespecial 44, 3) := by decide +kernel
theorem d_Ge_new_90 : decode c_Ge_new 90 = .ok (.putfield 45, 3) := by decide +kernel
theorem d_Ge_new_93 : decode c_Ge_new 93 = .ok (.aload_n 0, 1) := by decide +kernel
theorem d_Ge_new_94 : decode c_Ge_new 94 = .ok (.sipush 1040, 3) := by decide +kernel
theorem d_Ge_new_97 : decode c_Ge_new 97 = .ok (.newarray .int, 2) := by decide +kernel
theorem d_Ge_new_99 : decode c_Ge_new 99 = .ok (.putfield 49, 3) := by decide +kernel
theorem d_Ge_new_102 : decode c_Ge_new 102 = .ok (.aload_n 0, 1) := by decide +kernel
theorem d_Ge_new_103 : decode c_Ge_new 103 = .ok (.bipush 32, 2) := by decide +kernel
theorem d_Ge_new_105 : decode c_Ge_new 105 = .ok (.newarray .int, 2) := by decide +kernel
theorem d_Ge_new_107 : decode c_Ge_new 107 = .ok (.putfield 52, 3) := by decide +kernel
theorem d_Ge_new_110 : decode c_Ge_new 110 = .ok (.return_, 1) := by decide +kernel
theorem d_Ge_reset_0 : decode c_Ge_reset 0 = .ok (.iconst 0, 1) := by decide +kernel
theorem d_Ge_reset_1 : decode c_Ge_reset 1 = .ok (.istore_n 1, 1) := by decide +kernel
theorem d_Ge_reset_2 : decode c_Ge_reset 2 = .ok (.iload_n 1, 1) := by decide +kernel
theorem d_Ge_reset_3 : decode c_Ge_reset 3 = .ok (.bipush 16, 2) := by decide +kernel
theorem d_Ge_reset_5 : decode c_Ge_reset 5 = .ok (.if_icmp .ge 23, 3) := by decide +kernel
theorem d_Ge_reset_8 : decode c_Ge_reset 8 = .ok (.aload_n 0, 1) := by decide +kernel
theorem d_Ge_reset_9 : decode c_Ge_reset 9 = .ok (.getfield 11, 3) := by decide +kernel
theorem d_Ge_reset_12 : decode c_Ge_reset 12 = .ok (.iload_n 1, 1) := by decide +kernel
theorem d_Ge_reset_13 : decode c_Ge_reset 13 = .ok (.iconst 0, 1) := by decide +kernel
theorem d_Ge_reset_14 : decode c_Ge_reset 14 = .ok (.iastore, 1) := by decide +kernel
theorem d_Ge_reset_15 : decode c_Ge_reset 15 = .ok (.aload_n 0, 1) := by decide +kernel
theorem d_Ge_reset_16 : decode c_Ge_reset 16 = .ok (.getfield 17, 3) := by decide +kernel
theorem d_Ge_reset_19 : decode c_Ge_reset 19 = .ok (.iload_n 1, 1) := by decide +kernel
theorem d_Ge_reset_20 : decode c_Ge_reset 20 = .ok (.iconst 0, 1) := by decide +kernel
theorem d_Ge_reset_21 : decode c_Ge_reset 21 = .ok (.iastore, 1) := by decide +kernel
theorem d_Ge_reset_22 : decode c_Ge_reset 22 = .ok (.iinc 1 1, 3) := by decide +kernel
theorem d_Ge_reset_25 : decode c_Ge_reset 25 = .ok (.goto (-23), 3) := by decide +kernel
theorem d_Ge_reset_28 : decode c_Ge_reset 28 = .ok (.iconst 0, 1) := by decide +kernel
theorem d_Ge_reset_29 : decode c_Ge_reset 29 = .ok (.istore_n 1, 1) := by decide +kernel
theorem d_Ge_reset_30 : decode c_Ge_reset 30 = .ok (.iload_n 1, 1) := by decide +kernel
theorem d_Ge_reset_31 : decode c_Ge_reset 31 = .ok (.bipush 32, 2) := by decide +kernel
theorem d_Ge_reset_33 : decode c_Ge_reset 33 = .ok (.if_icmp .ge 19, 3) := by decide +kernel
theorem d_Ge_reset_36 : decode c_Ge_reset 36 = .ok (.aload_n 0, 1) := by decide +kernel
theorem d_Ge_reset_37 : decode c_Ge_reset 37 = .ok (.getfield 22, 3) := by decide +kernel
theorem d_Ge_reset_40 : decode c_Ge_reset 40 = .ok (.iload_n 1, 1) := by decide +kernel
theorem d_Ge_reset_41 : decode c_Ge_reset 41 = .ok (.aaload, 1) := by decide +kernel
theorem d_Ge_reset_42 : decode c_Ge_reset 42 = .ok (.iconst 0, 1) := by decide +kernel
theorem d_Ge_reset_43 : decode c_Ge_reset 43 = .ok (.putfield 55, 3) := by decide +kernel
theorem d_Ge_reset_46 : decode c_Ge_reset 46 = .ok (.iinc 1 1, 3) := by decide +kernel
theorem d_Ge_reset_49 : decode c_Ge_reset 49 = .ok (.goto (-19), 3) := by decide +kernel
theorem d_Ge_reset_52 : decode c_Ge_reset 52 = .ok (.aload_n 0, 1) := by decide +kernel
theorem d_Ge_reset_53 : decode c_Ge_reset 53 = .ok (.iconst 0, 1) := by decide +kernel
theorem d_Ge_reset_54 : decode c_Ge_reset 54 = .ok (.putfield 27, 3) := by decide +kernel
theorem d_Ge_reset_57 : decode c_Ge_reset 57 = .ok (.aload_n 0, 1) := by decide +kernel
theorem d_Ge_reset_58 : decode c_Ge_reset 58 = .ok (.iconst 0, 1) := by decide +kernel
theorem d_Ge_reset_59 : decode c_Ge_reset 59 = .ok (.putfield 31, 3) := by decide +kernel
theorem d_Ge_reset_62 : decode c_Ge_reset 62 = .ok (.aload_n 0, 1) := by decide +kernel
theorem d_Ge_reset_63 : decode c_Ge_reset 63 = .ok (.iconst (-1), 1) := by decide +kernel
theorem d_Ge_reset_64 : decode c_Ge_reset 64 = .ok (.putfield 34, 3) := by decide +kernel
theorem d_Ge_reset_67 : decode c_Ge_reset 67 = .ok (.return_, 1) := by decide +kernel
theorem d_Ge_isSeeded_0 : decode c_Ge_isSeeded 0 = .ok (.iconst 0, 1) := by decide +kernel
theorem d_Ge_isSeeded_1 : decode c_Ge_isSeeded 1 = .ok (.istore_n 1, 1) := by decide +kernel
theorem d_Ge_isSeeded_2 : decode c_Ge_isSeeded 2 = .ok (.iload_n 1, 1) := by decide +kernel
theorem d_Ge_isSeeded_3 : decode c_Ge_isSeeded 3 = .ok (.bipush 16, 2) := by decide +kernel
theorem d_Ge_isSeeded_5 : decode c_Ge_isSeeded 5 = .ok (.if_icmp .ge 20, 3) := by decide +kernel
theorem d_Ge_isSeeded_8 : decode c_Ge_isSeeded 8 = .ok (.aload_n 0, 1) := by decide +kernel
theorem d_Ge_isSeeded_9 : decode c_Ge_isSeeded 9 = .ok (.getfield 17, 3) := by decide +kernel
theorem d_Ge_isSeeded_12 : decode c_Ge_isSeeded 12 = .ok (.iload_n 1, 1) := by decide +kernel
theorem d_Ge_isSeeded_13 : decode c_Ge_isSeeded 13 = .ok (.iaload, 1) := by decide +kernel
theorem d_Ge_isSeeded_14 : decode c_Ge_isSeeded 14 = .ok (.ifCond .eq 5, 3) := by decide +kernel
theorem d_Ge_isSeeded_17 : decode c_Ge_isSeeded 17 = .ok (.iconst 1, 1) := by decide +kernel
theorem d_Ge_isSeeded_18 : decode c_Ge_isSeeded 18 = .ok (.ireturn, 1) := by decide +kernel
theorem d_Ge_isSeeded_19 : decode c_Ge_isSeeded 19 = .ok (.iinc 1 1, 3) := by decide +kernel
theorem d_Ge_isSeeded_22 : decode c_Ge_isSeeded 22 = .ok (.goto (-20), 3) := by decide +kernel
theorem d_Ge_isSeeded_25 : decode c_Ge_isSeeded 25 = .ok (.iconst 0, 1) := by decide +kernel
theorem d_Ge_isSeeded_26 : decode c_Ge_isSeeded 26 = .ok (.ireturn, 1) := by decide +kernel
theorem d_Ge_passTime_0 : decode c_Ge_passTime 0 = .ok (.iload_n 1, 1) := by decide +kernel
theorem d_Ge_passTime_1 : decode c_Ge_passTime 1 = .ok (.ifCond .le 24, 3) := by decide +kernel
theorem d_Ge_passTime_4 : decode c_Ge_passTime 4 = .ok (.iload_n 1, 1) := by decide +kernel
theorem d_Ge_passTime_5 : decode c_Ge_passTime 5 = .ok (.ldc 60, 2) := by decide +kernel
theorem d_Ge_passTime_7 : decode c_Ge_passTime 7 = .ok (.aload_n 0, 1) := by decide +kernel
theorem d_Ge_passTime_8 : decode c_Ge_passTime 8 = .ok (.getfield 31, 3) := by decide +kernel
theorem d_Ge_passTime_11 : decode c_Ge_passTime 11 = .ok (.isub, 1) := by decide +kernel
theorem d_Ge_passTime_12 : decode c_Ge_passTime 12 = .ok (.if_icmp .gt 13, 3) := by decide +kernel
theorem d_Ge_passTime_15 : decode c_Ge_passTime 15 = .ok (.aload_n 0, 1) := by decide +kernel
theorem d_Ge_passTime_16 : decode c_Ge_passTime 16 = .ok (.dup, 1) := by decide +kernel
theorem d_Ge_passTime_17 : decode c_Ge_passTime 17 = .ok (.getfield 31, 3) := by decide +kernel
theorem d_Ge_passTime_20 : decode c_Ge_passTime 20 = .ok (.iload_n 1, 1) := by decide +kernel
theorem d_Ge_passTime_21 : decode c_Ge_passTime 21 = .ok (.iadd, 1) := by decide +kernel
theorem d_Ge_passTime_22 : decode c_Ge_passTime 22 = .ok (.putfield 31, 3) := by decide +kernel
theorem d_Ge_passTime_25 : decode c_Ge_passTime 25 = .ok (.aload_n 0, 1) := by decide +kernel
theorem d_Ge_passTime_26 : decode c_Ge_passTime 26 = .ok (.getfield 31, 3) := by decide +kernel
theorem d_Ge_passTime_29 : decode c_Ge_passTime 29 = .ok (.ireturn, 1) := by decide +kernel
theorem d_Ge_isDrawingDue_0 : decode c_Ge_isDrawingDue 0 = .ok (.aload_n 0, 1) := by decide +kernel
theorem d_Ge_isDrawingDue_1 : decode c_Ge_isDrawingDue 1 = .ok (.getfield 22, 3) := by decide +kernel
theorem d_Ge_isDrawingDue_4 : decode c_Ge_isDrawingDue 4 = .ok (.iconst 0, 1) := by decide +kernel
theorem d_Ge_isDrawingDue_5 : decode c_Ge_isDrawingDue 5 = .ok (.aaload, 1) := by decide +kernel
theorem d_Ge_isDrawingDue_6 : decode c_Ge_isDrawingDue 6 = .ok (.getfield 55, 3) := by decide +kernel
theorem d_Ge_isDrawingDue_9 : decode c_Ge_isDrawingDue 9 = .ok (.bipush 32, 2) := by decide +kernel
theorem d_Ge_isDrawingDue_11 : decode c_Ge_isDrawingDue 11 = .ok (.if_icmp .lt 29, 3) := by decide +kernel
theorem d_Ge_isDrawingDue_14 : decode c_Ge_isDrawingDue 14 = .ok (.aload_n 0, 1) := by decide +kernel
theorem d_Ge_isDrawingDue_15 : decode c_Ge_isDrawingDue 15 = .ok (.getfield 34, 3) := by decide +kernel
theorem d_Ge_isDrawingDue_18 : decode c_Ge_isDrawingDue 18 = .ok (.iconst (-1), 1) := by decide +kernel
theorem d_Ge_isDrawingDue_19 : decode c_Ge_isDrawingDue 19 = .ok (.if_icmp .eq 17, 3) := by decide +kernel
theorem d_Ge_isDrawingDue_22 : decode c_Ge_isDrawingDue 22 = .ok (.aload_n 0, 1) := by decide +kernel
theorem d_Ge_isDrawingDue_23 : decode c_Ge_isDrawingDue 23 = .ok (.getfield 31, 3) := by decide +kernel
theorem d_Ge_isDrawingDue_26 : decode c_Ge_isDrawingDue 26 = .ok (.aload_n 0, 1) := by decide +kernel
theorem d_Ge_isDrawingDue_27 : decode c_Ge_isDrawingDue 27 = .ok (.getfield 34, 3) := by decide +kernel
theorem d_Ge_isDrawingDue_30 : decode c_Ge_isDrawingDue 30 = .ok (.isub, 1) := by decide +kernel
theorem d_Ge_isDrawingDue_31 : decode c_Ge_isDrawingDue 31 = .ok (.bipush 100, 2) := by decide +kernel
theorem d_Ge_isDrawingDue_33 : decode c_Ge_isDrawingDue 33 = .ok (.if_icmp .lt 7, 3) := by decide +kernel
theorem d_Ge_isDrawingDue_36 : decode c_Ge_isDrawingDue 36 = .ok (.iconst 1, 1) := by decide +kernel
theorem d_Ge_isDrawingDue_37 : decode c_Ge_isDrawingDue 37 = .ok (.goto 4, 3) := by decide +kernel
theorem d_Ge_isDrawingDue_40 : decode c_Ge_isDrawingDue 40 = .ok (.iconst 0, 1) := by decide +kernel
theorem d_Ge_isDrawingDue_41 : decode c_Ge_isDrawingDue 41 = .ok (.ireturn, 1) := by decide +kernel
theorem d_Ge_draw_0 : decode c_Ge_draw 0 = .ok (.aload_n 0, 1) := by decide +kernel
theorem d_Ge_draw_1 : decode c_Ge_draw 1 = .ok (.dup, 1) := by decide +kernel
theorem d_Ge_draw_2 : decode c_Ge_draw 2 = .ok (.getfield 27, 3) := by decide +kernel
theorem d_Ge_draw_5 : decode c_Ge_draw 5 = .ok (.iconst 1, 1) := by decide +kernel
theorem d_Ge_draw_6 : decode c_Ge_draw 6 = .ok (.iadd, 1) := by decide +kernel
theorem d_Ge_draw_7 : decode c_Ge_draw 7 = .ok (.putfield 27, 3) := by decide +kernel
theorem d_Ge_draw_10 : decode c_Ge_draw 10 = .ok (.bipush 16, 2) := by decide +kernel
theorem d_Ge_draw_12 : decode c_Ge_draw 12 = .ok (.istore_n 1, 1) := by decide +kernel
theorem d_Ge_draw_13 : decode c_Ge_draw 13 = .ok (.iconst 0, 1) := by decide +kernel
theorem d_Ge_draw_14 : decode c_Ge_draw 14 = .ok (.istore_n 2, 1) := by decide +kernel
theorem d_Ge_draw_15 : decode c_Ge_draw 15 = .ok (.iload_n 2, 1) := by decide +kernel
theorem d_Ge_draw_16 : decode c_Ge_draw 16 = .ok (.bipush 32, 2) := by decide +kernel
theorem d_Ge_draw_18 : decode c_Ge_draw 18 = .ok (.if_icmp .ge 63, 3) := by decide +kernel
theorem d_Ge_draw_21 : decode c_Ge_draw 21 = .ok (.aload_n 0, 1) := by decide +kernel
theorem d_Ge_draw_22 : decode c_Ge_draw 22 = .ok (.getfield 27, 3) := by decide +kernel
theorem d_Ge_draw_25 : decode c_Ge_draw 25 = .ok (.iload_n 2, 1) := by decide +kernel
theorem d_Ge_draw_26 : decode c_Ge_draw 26 = .ok (.invokestatic 61, 3) := by decide +kernel
theorem d_Ge_draw_29 : decode c_Ge_draw 29 = .ok (.ifCond .eq 52, 3) := by decide +kernel
theorem d_Ge_draw_32 : decode c_Ge_draw 32 = .ok (.aload_n 0, 1) := by decide +kernel
theorem d_Ge_draw_33 : decode c_Ge_draw 33 = .ok (.getfield 40, 3) := by decide +kernel
theorem d_Ge_draw_36 : decode c_Ge_draw 36 = .ok (.aload_n 0, 1) := by decide +kernel
theorem d_Ge_draw_37 : decode c_Ge_draw 37 = .ok (.getfield 22, 3) := by decide +kernel
theorem d_Ge_draw_40 : decode c_Ge_draw 40 = .ok (.iload_n 2, 1) := by decide +kernel
theorem d_Ge_draw_41 : decode c_Ge_draw 41 = .ok (.aaload, 1) := by decide +kernel
theorem d_Ge_draw_42 : decode c_Ge_draw 42 = .ok (.getfield 65, 3) := by decide +kernel
theorem d_Ge_draw_45 : decode c_Ge_draw 45 = .ok (.aload_n 0, 1) := by decide +kernel
theorem d_Ge_draw_46 : decode c_Ge_draw 46 = .ok (.getfield 22, 3) := by decide +kernel
theorem d_Ge_draw_49 : decode c_Ge_draw 49 = .ok (.iload_n 2, 1) := by decide +kernel
theorem d_Ge_draw_50 : decode c_Ge_draw 50 = .ok (.aaload, 1) := by decide +kernel
theorem d_Ge_draw_51 : decode c_Ge_draw 51 = .ok (.getfield 55, 3) := by decide +kernel
theorem d_Ge_draw_54 : decode c_Ge_draw 54 = .ok (.aload_n 0, 1) := by decide +kernel
theorem d_Ge_draw_55 : decode c_Ge_draw 55 = .ok (.getfield 49, 3) := by decide +kernel
theorem d_Ge_draw_58 : decode c_Ge_draw 58 = .ok (.iload_n 1, 1) := by decide +kernel
theorem d_Ge_draw_59 : decode c_Ge_draw 59 = .ok (.invokevirtual 68, 3) := by decide +kernel
theorem d_Ge_draw_62 : decode c_Ge_draw 62 = .ok (.aload_n 0, 1) := by decide +kernel
theorem d_Ge_draw_63 : decode c_Ge_draw 63 = .ok (.getfield 22, 3) := by decide +kernel
theorem d_Ge_draw_66 : decode c_Ge_draw 66 = .ok (.iload_n 2, 1) := by decide +kernel
theorem d_Ge_draw_67 : decode c_Ge_draw 67 = .ok (.aaload, 1) := by decide +kernel
theorem d_Ge_draw_68 : decode c_Ge_draw 68 = .ok (.iconst 0, 1) := by decide +kernel
theorem d_Ge_draw_69 : decode c_Ge_draw 69 = .ok (.putfield 55, 3) := by decide +kernel
theorem d_Ge_draw_72 : decode c_Ge_draw 72 = .ok (.iinc 1 32, 3) := by decide +kernel
theorem d_Ge_draw_75 : decode c_Ge_draw 75 = .ok (.iinc 2 1, 3) := by decide +kernel
theorem d_Ge_draw_78 : decode c_Ge_draw 78 = .ok (.goto (-63), 3) := by decide +kernel
theorem d_Ge_draw_81 : decode c_Ge_draw 81 = .ok (.aload_n 0, 1) := by decide +kernel
theorem d_Ge_draw_82 : decode c_Ge_draw 82 = .ok (.iload_n 1, 1) := by decide +kernel
theorem d_Ge_draw_83 : decode c_Ge_draw 83 = .ok (.invokevirtual 71, 3) := by decide +kernel
theorem d_Ge_draw_86 : decode c_Ge_draw 86 = .ok (.aload_n 0, 1) := by decide +kernel
theorem d_Ge_draw_87 : decode c_Ge_draw 87 = .ok (.aload_n 0, 1) := by decide +kernel
theorem d_Ge_draw_88 : decode c_Ge_draw 88 = .ok (.getfield 31, 3) := by decide +kernel
theorem d_Ge_draw_91 : decode c_Ge_draw 91 = .ok (.putfield 34, 3) := by decide +kernel
theorem d_Ge_draw_94 : decode c_Ge_draw 94 = .ok (.return_, 1) := by decide +kernel
theorem d_Ge_isMultiple_0 : decode c_Ge_isMultiple 0 = .ok (.iload_n 0, 1) := by decide +kernel
theorem d_Ge_isMultiple_1 : decode c_Ge_isMultiple 1 = .ok (.iconst 1, 1) := by decide +kernel
theorem d_Ge_isMultiple_2 : decode c_Ge_isMultiple 2 = .ok (.iload_n 1, 1) := by decide +kernel
theorem d_Ge_isMultiple_3 : decode c_Ge_isMultiple 3 = .ok (.ishl, 1) := by decide +kernel
theorem d_Ge_isMultiple_4 : decode c_Ge_isMultiple 4 = .ok (.iconst 1, 1) := by decide +kernel
theorem d_Ge_isMultiple_5 : decode c_Ge_isMultiple 5 = .ok (.isub, 1) := by decide +kernel
theorem d_Ge_isMultiple_6 : decode c_Ge_isMultiple 6 = .ok (.iand, 1) := by decide +kernel
theorem d_Ge_isMultiple_7 : decode c_Ge_isMultiple 7 = .ok (.ifCond .ne 7, 3) := by decide +kernel
theorem d_Ge_isMultiple_10 : decode c_Ge_isMultiple 10 = .ok (.iconst 1, 1) := by decide +kernel
theorem d_Ge_isMultiple_11 : decode c_Ge_isMultiple 11 = .ok (.goto 4, 3) := by decide +kernel
theorem d_Ge_isMultiple_14 : decode c_Ge_isMultiple 14 = .ok (.iconst 0, 1) := by decide +kernel
theorem d_Ge_isMultiple_15 : decode c_Ge_isMultiple 15 = .ok (.ireturn, 1) := by decide +kernel
theorem d_Ge_reseedWith_0 : decode c_Ge_reseedWith 0 = .ok (.aload_n 1, 1) := by decide +kernel
theorem d_Ge_reseedWith_1 : decode c_Ge_reseedWith 1 = .ok (.iload_n 2, 1) := by decide +kernel
theorem d_Ge_reseedWith_2 : decode c_Ge_reseedWith 2 = .ok (.aload_n 0, 1) := by decide +kernel
theorem d_Ge_reseedWith_3 : decode c_Ge_reseedWith 3 = .ok (.getfield 49, 3) := by decide +kernel
theorem d_Ge_reseedWith_6 : decode c_Ge_reseedWith 6 = .ok (.bipush 16, 2) := by decide +kernel
theorem d_Ge_reseedWith_8 : decode c_Ge_reseedWith 8 = .ok (.iload_n 3, 1) := by decide +kernel
theorem d_Ge_reseedWith_9 : decode c_Ge_reseedWith 9 = .ok (.invokestatic 75, 3) := by decide +kernel
theorem d_Ge_reseedWith_12 : decode c_Ge_reseedWith 12 = .ok (.aload_n 0, 1) := by decide +kernel
theorem d_Ge_reseedWith_13 : decode c_Ge_reseedWith 13 = .ok (.bipush 16, 2) := by decide +kernel
theorem d_Ge_reseedWith_15 : decode c_Ge_reseedWith 15 = .ok (.iload_n 3, 1) := by decide +kernel
theorem d_Ge_reseedWith_16 : decode c_Ge_reseedWith 16 = .ok (.iadd, 1) := by decide +kernel
theorem d_Ge_reseedWith_17 : decode c_Ge_reseedWith 17 = .ok (.invokevirtual 71, 3) := by decide +kernel
theorem d_Ge_reseedWith_20 : decode c_Ge_reseedWith 20 = .ok (.return_, 1) := by decide +kernel
theorem d_Ge_reseed_0 : decode c_Ge_reseed 0 = .ok (.aload_n 0, 1) := by decide +kernel
theorem d_Ge_reseed_1 : decode c_Ge_reseed 1 = .ok (.getfield 11, 3) := by decide +kernel
theorem d_Ge_reseed_4 : decode c_Ge_reseed 4 = .ok (.iconst 0, 1) := by decide +kernel
theorem d_Ge_reseed_5 : decode c_Ge_reseed 5 = .ok (.aload_n 0, 1) := by decide +kernel
theorem d_Ge_reseed_6 : decode c_Ge_reseed 6 = .ok (.getfield 49, 3) := by decide +kernel
theorem d_Ge_reseed_9 : decode c_Ge_reseed 9 = .ok (.iconst 0, 1) := by decide +kernel
theorem d_Ge_reseed_10 : decode c_Ge_reseed 10 = .ok (.bipush 16, 2) := by decide +kernel
theorem d_Ge_reseed_12 : decode c_Ge_reseed 12 = .ok (.invokestatic 75, 3) := by decide +kernel
theorem d_Ge_reseed_15 : decode c_Ge_reseed 15 = .ok (.aload_n 0, 1) := by decide +kernel
theorem d_Ge_reseed_16 : decode c_Ge_reseed 16 = .ok (.getfield 40, 3) := by decide +kernel
theorem d_Ge_reseed_19 : decode c_Ge_reseed 19 = .ok (.aload_n 0, 1) := by decide +kernel
theorem d_Ge_reseed_20 : decode c_Ge_reseed 20 = .ok (.getfield 49, 3) := by decide +kernel
theorem d_Ge_reseed_23 : decode c_Ge_reseed 23 = .ok (.iload_n 1, 1) := by decide +kernel
theorem d_Ge_reseed_24 : decode c_Ge_reseed 24 = .ok (.aload_n 0, 1) := by decide +kernel
theorem d_Ge_reseed_25 : decode c_Ge_reseed 25 = .ok (.getfield 52, 3) := by decide +kernel
theorem d_Ge_reseed_28 : decode c_Ge_reseed 28 = .ok (.iconst 0, 1) := by decide +kernel
theorem d_Ge_reseed_29 : decode c_Ge_reseed 29 = .ok (.invokevirtual 68, 3) := by decide +kernel
theorem d_Ge_reseed_32 : decode c_Ge_reseed 32 = .ok (.aload_n 0, 1) := by decide +kernel
theorem d_Ge_reseed_33 : decode c_Ge_reseed 33 = .ok (.getfield 52, 3) := by decide +kernel
theorem d_Ge_reseed_36 : decode c_Ge_reseed 36 = .ok (.iconst 0, 1) := by decide +kernel
theorem d_Ge_reseed_37 : decode c_Ge_reseed 37 = .ok (.aload_n 0, 1) := by decide +kernel
theorem d_Ge_reseed_38 : decode c_Ge_reseed 38 = .ok (.getfield 11, 3) := by decide +kernel
theorem d_Ge_reseed_41 : decode c_Ge_reseed 41 = .ok (.iconst 0, 1) := by decide +kernel
theorem d_Ge_reseed_42 : decode c_Ge_reseed 42 = .ok (.bipush 16, 2) := by decide +kernel
theorem d_Ge_reseed_44 : decode c_Ge_reseed 44 = .ok (.invokestatic 75, 3) := by decide +kernel
theorem d_Ge_reseed_47 : decode c_Ge_reseed 47 = .ok (.aload_n 0, 1) := by decide +kernel
theorem d_Ge_reseed_48 : decode c_Ge_reseed 48 = .ok (.invokevirtual 81, 3) := by decide +kernel
theorem d_Ge_reseed_51 : decode c_Ge_reseed 51 = .ok (.return_, 1) := by decide +kernel
theorem d_Ge_generate_0 : decode c_Ge_generate 0 = .ok (.aload_n 0, 1) := by decide +kernel
theorem d_Ge_generate_1 : decode c_Ge_generate 1 = .ok (.getfield 45, 3) := by decide +kernel
theorem d_Ge_generate_4 : decode c_Ge_generate 4 = .ok (.aload_n 0, 1) := by decide +kernel
theorem d_Ge_generate_5 : decode c_Ge_generate 5 = .ok (.getfield 11, 3) := by decide +kernel
theorem d_Ge_generate_8 : decode c_Ge_generate 8 = .ok (.invokevirtual 84, 3) := by decide +kernel
theorem d_Ge_generate_11 : decode c_Ge_generate 11 = .ok (.iconst 0, 1) := by decide +kernel
theorem d_Ge_generate_12 : decode c_Ge_generate 12 = .ok (.istore_n 3, 1) := by decide +kernel
theorem d_Ge_generate_13 : decode c_Ge_generate 13 = .ok (.iload_n 3, 1) := by decide +kernel
theorem d_Ge_generate_14 : decode c_Ge_generate 14 = .ok (.iload_n 1, 1) := by decide +kernel
theorem d_Ge_generate_15 : decode c_Ge_generate 15 = .ok (.if_icmp .ge 26, 3) := by decide +kernel
theorem d_Ge_generate_18 : decode c_Ge_generate 18 = .ok (.aload_n 0, 1) := by decide +kernel
theorem d_Ge_generate_19 : decode c_Ge_generate 19 = .ok (.getfield 45, 3) := by decide +kernel
theorem d_Ge_generate_22 : decode c_Ge_generate 22 = .ok (.aload_n 0, 1) := by decide +kernel
theorem d_Ge_generate_23 : decode c_Ge_generate 23 = .ok (.getfield 17, 3) := by decide +kernel
theorem d_Ge_generate_26 : decode c_Ge_generate 26 = .ok (.aload_n 2, 1) := by decide +kernel
theorem d_Ge_generate_27 : decode c_Ge_generate 27 = .ok (.iload_n 3, 1) := by decide +kernel
theorem d_Ge_generate_28 : decode c_Ge_generate 28 = .ok (.invokevirtual 88, 3) := by decide +kernel
theorem d_Ge_generate_31 : decode c_Ge_generate 31 = .ok (.aload_n 0, 1) := by decide +kernel
theorem d_Ge_generate_32 : decode c_Ge_generate 32 = .ok (.invokevirtual 81, 3) := by decide +kernel
theorem d_Ge_generate_35 : decode c_Ge_generate 35 = .ok (.iinc 3 16, 3) := by decide +kernel
theorem d_Ge_generate_38 : decode c_Ge_generate 38 = .ok (.goto (-25), 3) := by decide +kernel
theorem d_Ge_generate_41 : decode c_Ge_generate 41 = .ok (.aload_n 0, 1) := by decide +kernel
theorem d_Ge_generate_42 : decode c_Ge_generate 42 = .ok (.getfield 45, 3) := by decide +kernel
theorem d_Ge_generate_45 : decode c_Ge_generate 45 = .ok (.aload_n 0, 1) := by decide +kernel
theorem d_Ge_generate_46 : decode c_Ge_generate 46 = .ok (.getfield 17, 3) := by decide +kernel
theorem d_Ge_generate_49 : decode c_Ge_generate 49 = .ok (.aload_n 0, 1) := by decide +kernel
theorem d_Ge_generate_50 : decode c_Ge_generate 50 = .ok (.getfield 11, 3) := by decide +kernel
theorem d_Ge_generate_53 : decode c_Ge_generate 53 = .ok (.iconst 0, 1) := by decide +kernel
theorem d_Ge_generate_54 : decode c_Ge_generate 54 = .ok (.invokevirtual 88, 3) := by decide +kernel
theorem d_Ge_generate_57 : decode c_Ge_generate 57 = .ok (.aload_n 0, 1) := by decide +kernel
theorem d_Ge_generate_58 : decode c_Ge_generate 58 = .ok (.invokevirtual 81, 3) := by decide +kernel
theorem d_Ge_generate_61 : decode c_Ge_generate 61 = .ok (.return_, 1) := by decide +kernel
theorem d_Ge_byteOfTwice_0 : decode c_Ge_byteOfTwice 0 = .ok (.aload_n 0, 1) := by decide +kernel
theorem d_Ge_byteOfTwice_1 : decode c_Ge_byteOfTwice 1 = .ok (.getfield 40, 3) := by decide +kernel
theorem d_Ge_byteOfTwice_4 : decode c_Ge_byteOfTwice 4 = .ok (.aload_n 0, 1) := by decide +kernel
theorem d_Ge_byteOfTwice_5 : decode c_Ge_byteOfTwice 5 = .ok (.getfield 22, 3) := by decide +kernel
theorem d_Ge_byteOfTwice_8 : decode c_Ge_byteOfTwice 8 = .ok (.iload_n 1, 1) := by decide +kernel
theorem d_Ge_byteOfTwice_9 : decode c_Ge_byteOfTwice 9 = .ok (.aaload, 1) := by decide +kernel
theorem d_Ge_byteOfTwice_10 : decode c_Ge_byteOfTwice 10 = .ok (.getfield 65, 3) := by decide +kernel
theorem d_Ge_byteOfTwice_13 : decode c_Ge_byteOfTwice 13 = .ok (.aload_n 0, 1) := by decide +kernel
theorem d_Ge_byteOfTwice_14 : decode c_Ge_byteOfTwice 14 = .ok (.getfield 22, 3) := by decide +kernel
theorem d_Ge_byteOfTwice_17 : decode c_Ge_byteOfTwice 17 = .ok (.iload_n 1, 1) := by decide +kernel
theorem d_Ge_byteOfTwice_18 : decode c_Ge_byteOfTwice 18 = .ok (.aaload, 1) := by decide +kernel
theorem d_Ge_byteOfTwice_19 : decode c_Ge_byteOfTwice 19 = .ok (.getfield 55, 3) := by decide +kernel
theorem d_Ge_byteOfTwice_22 : decode c_Ge_byteOfTwice 22 = .ok (.aload_n 0, 1) := by decide +kernel
theorem d_Ge_byteOfTwice_23 : decode c_Ge_byteOfTwice 23 = .ok (.getfield 52, 3) := by decide +kernel
theorem d_Ge_byteOfTwice_26 : decode c_Ge_byteOfTwice 26 = .ok (.iconst 0, 1) := by decide +kernel
theorem d_Ge_byteOfTwice_27 : decode c_Ge_byteOfTwice 27 = .ok (.invokevirtual 68, 3) := by decide +kernel
theorem d_Ge_byteOfTwice_30 : decode c_Ge_byteOfTwice 30 = .ok (.aload_n 0, 1) := by decide +kernel
theorem d_Ge_byteOfTwice_31 : decode c_Ge_byteOfTwice 31 = .ok (.getfield 52, 3) := by decide +kernel
theorem d_Ge_byteOfTwice_34 : decode c_Ge_byteOfTwice 34 = .ok (.iload_n 2, 1) := by decide +kernel
theorem d_Ge_byteOfTwice_35 : decode c_Ge_byteOfTwice 35 = .ok (.iaload, 1) := by decide +kernel
theorem d_Ge_byteOfTwice_36 : decode c_Ge_byteOfTwice 36 = .ok (.ireturn, 1) := by decide +kernel
theorem d_Ge_countOn_0 : decode c_Ge_countOn 0 = .ok (.iconst 0, 1) := by decide +kernel
theorem d_Ge_countOn_1 : decode c_Ge_countOn 1 = .ok (.istore_n 1, 1) := by decide +kernel
theorem d_Ge_countOn_2 : decode c_Ge_countOn 2 = .ok (.iload_n 1, 1) := by decide +kernel
theorem d_Ge_countOn_3 : decode c_Ge_countOn 3 = .ok (.bipush 16, 2) := by decide +kernel
theorem d_Ge_countOn_5 : decode c_Ge_countOn 5 = .ok (.if_icmp .ge 37, 3) := by decide +kernel
theorem d_Ge_countOn_8 : decode c_Ge_countOn 8 = .ok (.aload_n 0, 1) := by decide +kernel
theorem d_Ge_countOn_9 : decode c_Ge_countOn 9 = .ok (.getfield 17, 3) := by decide +kernel
theorem d_Ge_countOn_12 : decode c_Ge_countOn 12 = .ok (.iload_n 1, 1) := by decide +kernel
theorem d_Ge_countOn_13 : decode c_Ge_countOn 13 = .ok (.aload_n 0, 1) := by decide +kernel
theorem d_Ge_countOn_14 : decode c_Ge_countOn 14 = .ok (.getfield 17, 3) := by decide +kernel
theorem d_Ge_countOn_17 : decode c_Ge_countOn 17 = .ok (.iload_n 1, 1) := by decide +kernel
theorem d_Ge_countOn_18 : decode c_Ge_countOn 18 = .ok (.iaload, 1) := by decide +kernel
theorem d_Ge_countOn_19 : decode c_Ge_countOn 19 = .ok (.iconst 1, 1) := by decide +kernel
theorem d_Ge_countOn_20 : decode c_Ge_countOn 20 = .ok (.iadd, 1) := by decide +kernel
theorem d_Ge_countOn_21 : decode c_Ge_countOn 21 = .ok (.sipush 255, 3) := by decide +kernel
theorem d_Ge_countOn_24 : decode c_Ge_countOn 24 = .ok (.iand, 1) := by decide +kernel
theorem d_Ge_countOn_25 : decode c_Ge_countOn 25 = .ok (.iastore, 1) := by decide +kernel
theorem d_Ge_countOn_26 : decode c_Ge_countOn 26 = .ok (.aload_n 0, 1) := by decide +kernel
theorem d_Ge_countOn_27 : decode c_Ge_countOn 27 = .ok (.getfield 17, 3) := by decide +kernel
theorem d_Ge_countOn_30 : decode c_Ge_countOn 30 = .ok (.iload_n 1, 1) := by decide +kernel
theorem d_Ge_countOn_31 : decode c_Ge_countOn 31 = .ok (.iaload, 1) := by decide +kernel
theorem d_Ge_countOn_32 : decode c_Ge_countOn 32 = .ok (.ifCond .eq 4, 3) := by decide +kernel
theorem d_Ge_countOn_35 : decode c_Ge_countOn 35 = .ok (.return_, 1) := by decide +kernel
theorem d_Ge_countOn_36 : decode c_Ge_countOn 36 = .ok (.iinc 1 1, 3) := by decide +kernel
theorem d_Ge_countOn_39 : decode c_Ge_countOn 39 = .ok (.goto (-37), 3) := by decide +kernel
theorem d_Ge_countOn_42 : decode c_Ge_countOn 42 = .ok (.return_, 1) := by decide +kernel
theorem d_Po_new_0 : decode c_Po_new 0 = .ok (.aload_n 0, 1) := by decide +kernel
theorem d_Po_new_1 : decode c_Po_new 1 = .ok (.invokespecial 3, 3) := by decide +kernel
theorem d_Po_new_4 : decode c_Po_new 4 = .ok (.aload_n 0, 1) := by decide +kernel
theorem d_Po_new_5 : decode c_Po_new 5 = .ok (.bipush 12, 2) := by decide +kernel
theorem d_Po_new_7 : decode c_Po_new 7 = .ok (.newarray .int, 2) := by decide +kernel
theorem d_Po_new_9 : decode c_Po_new 9 = .ok (.putfield 9, 3) := by decide +kernel
theorem d_Po_new_12 : decode c_Po_new 12 = .ok (.aload_n 0, 1) := by decide +kernel
theorem d_Po_new_13 : decode c_Po_new 13 = .ok (.iconst 0, 1) := by decide +kernel
theorem d_Po_new_14 : decode c_Po_new 14 = .ok (.putfield 13, 3) := by decide +kernel
theorem d_Po_new_17 : decode c_Po_new 17 = .ok (.return_, 1) := by decide +kernel
theorem d_Po_add_0 : decode c_Po_add 0 = .ok (.aload_n 0, 1) := by decide +kernel
theorem d_Po_add_1 : decode c_Po_add 1 = .ok (.getfield 13, 3) := by decide +kernel
theorem d_Po_add_4 : decode c_Po_add 4 = .ok (.iconst 3, 1) := by decide +kernel
theorem d_Po_add_5 : decode c_Po_add 5 = .ok (.iadd, 1) := by decide +kernel
theorem d_Po_add_6 : decode c_Po_add 6 = .ok (.sipush 1536, 3) := by decide +kernel
theorem d_Po_add_9 : decode c_Po_add 9 = .ok (.if_icmp .le 5, 3) := by decide +kernel
theorem d_Po_add_12 : decode c_Po_add 12 = .ok (.iconst 0, 1) := by decide +kernel
theorem d_Po_add_13 : decode c_Po_add 13 = .ok (.ireturn, 1) := by decide +kernel
theorem d_Po_add_14 : decode c_Po_add 14 = .ok (.aload_n 0, 1) := by decide +kernel
theorem d_Po_add_15 : decode c_Po_add 15 = .ok (.getfield 13, 3) := by decide +kernel
theorem d_Po_add_18 : decode c_Po_add 18 = .ok (.iconst 3, 1) := by decide +kernel
theorem d_Po_add_19 : decode c_Po_add 19 = .ok (.iadd, 1) := by decide +kernel
theorem d_Po_add_20 : decode c_Po_add 20 = .ok (.aload_n 0, 1) := by decide +kernel
theorem d_Po_add_21 : decode c_Po_add 21 = .ok (.getfield 9, 3) := by decide +kernel
theorem d_Po_add_24 : decode c_Po_add 24 = .ok (.arraylength, 1) := by decide +kernel
theorem d_Po_add_25 : decode c_Po_add 25 = .ok (.if_icmp .le 7, 3) := by decide +kernel
theorem d_Po_add_28 : decode c_Po_add 28 = .ok (.aload_n 0, 1) := by decide +kernel
theorem d_Po_add_29 : decode c_Po_add 29 = .ok (.invokevirtual 17, 3) := by decide +kernel
theorem d_Po_add_32 : decode c_Po_add 32 = .ok (.aload_n 0, 1) := by decide +kernel
theorem d_Po_add_33 : decode c_Po_add 33 = .ok (.getfield 9, 3) := by decide +kernel
theorem d_Po_add_36 : decode c_Po_add 36 = .ok (.aload_n 0, 1) := by decide +kernel
theorem d_Po_add_37 : decode c_Po_add 37 = .ok (.getfield 13, 3) := by decide +kernel
theorem d_Po_add_40 : decode c_Po_add 40 = .ok (.iload_n 1, 1) := by decide +kernel
theorem d_Po_add_41 : decode c_Po_add 41 = .ok (.iastore, 1) := by decide +kernel
theorem d_Po_add_42 : decode c_Po_add 42 = .ok (.aload_n 0, 1) := by decide +kernel
theorem d_Po_add_43 : decode c_Po_add 43 = .ok (.getfield 9, 3) := by decide +kernel
theorem d_Po_add_46 : decode c_Po_add 46 = .ok (.aload_n 0, 1) := by decide +kernel
theorem d_Po_add_47 : decode c_Po_add 47 = .ok (.getfield 13, 3) := by decide +kernel
theorem d_Po_add_50 : decode c_Po_add 50 = .ok (.iconst 1, 1) := by decide +kernel
theorem d_Po_add_51 : decode c_Po_add 51 = .ok (.iadd, 1) := by decide +kernel
theorem d_Po_add_52 : decode c_Po_add 52 = .ok (.iconst 1, 1) := by decide +kernel
theorem d_Po_add_53 : decode c_Po_add 53 = .ok (.iastore, 1) := by decide +kernel
theorem d_Po_add_54 : decode c_Po_add 54 = .ok (.aload_n 0, 1) := by decide +kernel
theorem d_Po_add_55 : decode c_Po_add 55 = .ok (.getfield 9, 3) := by decide +kernel
theorem d_Po_add_58 : decode c_Po_add 58 = .ok (.aload_n 0, 1) := by decide +kernel
theorem d_Po_add_59 : decode c_Po_add 59 = .ok (.getfield 13, 3) := by decide +kernel
theorem d_Po_add_62 : decode c_Po_add 62 = .ok (.iconst 2, 1) := by decide +kernel
theorem d_Po_add_63 : decode c_Po_add 63 = .ok (.iadd, 1) := by decide +kernel
theorem d_Po_add_64 : decode c_Po_add 64 = .ok (.iload_n 2, 1) := by decide +kernel
theorem d_Po_add_65 : decode c_Po_add 65 = .ok (.iastore, 1) := by decide +kernel
theorem d_Po_add_66 : decode c_Po_add 66 = .ok (.aload_n 0, 1) := by decide +kernel
theorem d_Po_add_67 : decode c_Po_add 67 = .ok (.dup, 1) := by decide +kernel
theorem d_Po_add_68 : decode c_Po_add 68 = .ok (.getfield 13, 3) := by decide +kernel
theorem d_Po_add_71 : decode c_Po_add 71 = .ok (.iconst 3, 1) := by decide +kernel
theorem d_Po_add_72 : decode c_Po_add 72 = .ok (.iadd, 1) := by decide +kernel
theorem d_Po_add_73 : decode c_Po_add 73 = .ok (.putfield 13, 3) := by decide +kernel
theorem d_Po_add_76 : decode c_Po_add 76 = .ok (.iconst 1, 1) := by decide +kernel
theorem d_Po_add_77 : decode c_Po_add 77 = .ok (.ireturn, 1) := by decide +kernel
theorem d_Po_grow_0 : decode c_Po_grow 0 = .ok (.iconst 2, 1) := by decide +kernel
theorem d_Po_grow_1 : decode c_Po_grow 1 = .ok (.aload_n 0, 1) := by decide +kernel
theorem d_Po_grow_2 : decode c_Po_grow 2 = .ok (.getfield 9, 3) := by decide +kernel
theorem d_Po_grow_5 : decode c_Po_grow 5 = .ok (.arraylength, 1) := by decide +kernel
theorem d_Po_grow_6 : decode c_Po_grow 6 = .ok (.imul, 1) := by decide +kernel
theorem d_Po_grow_7 : decode c_Po_grow 7 = .ok (.newarray .int, 2) := by decide +kernel
theorem d_Po_grow_9 : decode c_Po_grow 9 = .ok (.astore_n 1, 1) := by decide +kernel
theorem d_Po_grow_10 : decode c_Po_grow 10 = .ok (.aload_n 0, 1) := by decide +kernel
theorem d_Po_grow_11 : decode c_Po_grow 11 = .ok (.getfield 9, 3) := by decide +kernel
theorem d_Po_grow_14 : decode c_Po_grow 14 = .ok (.iconst 0, 1) := by decide +kernel
theorem d_Po_grow_15 : decode c_Po_grow 15 = .ok (.aload_n 1, 1) := by decide +kernel
theorem d_Po_grow_16 : decode c_Po_grow 16 = .ok (.iconst 0, 1) := by decide +kernel
theorem d_Po_grow_17 : decode c_Po_grow 17 = .ok (.aload_n 0, 1) := by decide +kernel
theorem d_Po_grow_18 : decode c_Po_grow 18 = .ok (.getfield 13, 3) := by decide +kernel
theorem d_Po_grow_21 : decode c_Po_grow 21 = .ok (.invokestatic 20, 3) := by decide +kernel
theorem d_Po_grow_24 : decode c_Po_grow 24 = .ok (.aload_n 0, 1) := by decide +kernel
theorem d_Po_grow_25 : decode c_Po_grow 25 = .ok (.aload_n 1, 1) := by decide +kernel
theorem d_Po_grow_26 : decode c_Po_grow 26 = .ok (.putfield 9, 3) := by decide +kernel
theorem d_Po_grow_29 : decode c_Po_grow 29 = .ok (.return_, 1) := by decide +kernel
theorem d_Pd_new_0 : decode c_Pd_new 0 = .ok (.aload_n 0, 1) := by decide +kernel
theorem d_Pd_new_1 : decode c_Pd_new 1 = .ok (.invokespecial 1, 3) := by decide +kernel
theorem d_Pd_new_4 : decode c_Pd_new 4 = .ok (.aload_n 0, 1) := by decide +kernel
theorem d_Pd_new_5 : decode c_Pd_new 5 = .ok (.new 7, 3) := by decide +kernel
theorem d_Pd_new_8 : decode c_Pd_new 8 = .ok (.dup, 1) := by decide +kernel
theorem d_Pd_new_9 : decode c_Pd_new 9 = .ok (.invokespecial 9, 3) := by decide +kernel
theorem d_Pd_new_12 : decode c_Pd_new 12 = .ok (.putfield 10, 3) := by decide +kernel
theorem d_Pd_new_15 : decode c_Pd_new 15 = .ok (.aload_n 0, 1) := by decide +kernel
theorem d_Pd_new_16 : decode c_Pd_new 16 = .ok (.new 16, 3) := by decide +kernel
theorem d_Pd_new_19 : decode c_Pd_new 19 = .ok (.dup, 1) := by decide +kernel
theorem d_Pd_new_20 : decode c_Pd_new 20 = .ok (.invokespecial 18, 3) := by decide +kernel
theorem d_Pd_new_23 : decode c_Pd_new 23 = .ok (.putfield 19, 3) := by decide +kernel
theorem d_Pd_new_26 : decode c_Pd_new 26 = .ok (.aload_n 0, 1) := by decide +kernel
theorem d_Pd_new_27 : decode c_Pd_new 27 = .ok (.sipush 256, 3) := by decide +kernel
theorem d_Pd_new_30 : decode c_Pd_new 30 = .ok (.newarray .int, 2) := by decide +kernel
theorem d_Pd_new_32 : decode c_Pd_new 32 = .ok (.putfield 23, 3) := by decide +kernel
theorem d_Pd_new_35 : decode c_Pd_new 35 = .ok (.aload_n 0, 1) := by decide +kernel
theorem d_Pd_new_36 : decode c_Pd_new 36 = .ok (.iconst 0, 1) := by decide +kernel
theorem d_Pd_new_37 : decode c_Pd_new 37 = .ok (.putfield 27, 3) := by decide +kernel
theorem d_Pd_new_40 : decode c_Pd_new 40 = .ok (.aload_n 0, 1) := by decide +kernel
theorem d_Pd_new_41 : decode c_Pd_new 41 = .ok (.bipush 64, 2) := by decide +kernel
theorem d_Pd_new_43 : decode c_Pd_new 43 = .ok (.newarray .int, 2) := by decide +kernel
theorem d_Pd_new_45 : decode c_Pd_new 45 = .ok (.putfield 31, 3) := by decide +kernel
theorem d_Pd_new_48 : decode c_Pd_new 48 = .ok (.return_, 1) := by decide +kernel
theorem d_Pd_init_0 : decode c_Pd_init 0 = .ok (.aload_n 0, 1) := by decide +kernel
theorem d_Pd_init_1 : decode c_Pd_init 1 = .ok (.invokevirtual 34, 3) := by decide +kernel
theorem d_Pd_init_4 : decode c_Pd_init 4 = .ok (.aload_n 0, 1) := by decide +kernel
theorem d_Pd_init_5 : decode c_Pd_init 5 = .ok (.getfield 19, 3) := by decide +kernel
theorem d_Pd_init_8 : decode c_Pd_init 8 = .ok (.iconst 0, 1) := by decide +kernel
theorem d_Pd_init_9 : decode c_Pd_init 9 = .ok (.invokevirtual 37, 3) := by decide +kernel
theorem d_Pd_init_12 : decode c_Pd_init 12 = .ok (.return_, 1) := by decide +kernel
theorem d_Pd_event_0 : decode c_Pd_event 0 = .ok (.iload_n 1, 1) := by decide +kernel
theorem d_Pd_event_1 : decode c_Pd_event 1 = .ok (.invokestatic 41, 3) := by decide +kernel
theorem d_Pd_event_4 : decode c_Pd_event 4 = .ok (.ifCond .eq 17, 3) := by decide +kernel
theorem d_Pd_event_7 : decode c_Pd_event 7 = .ok (.iload_n 2, 1) := by decide +kernel
theorem d_Pd_event_8 : decode c_Pd_event 8 = .ok (.invokestatic 45, 3) := by decide +kernel
theorem d_Pd_event_11 : decode c_Pd_event 11 = .ok (.ifCond .eq 10, 3) := by decide +kernel
theorem d_Pd_event_14 : decode c_Pd_event 14 = .ok (.iload_n 3, 1) := by decide +kernel
theorem d_Pd_event_15 : decode c_Pd_event 15 = .ok (.invokestatic 41, 3) := by decide +kernel
theorem d_Pd_event_18 : decode c_Pd_event 18 = .ok (.ifCond .ne 5, 3) := by decide +kernel
theorem d_Pd_event_21 : decode c_Pd_event 21 = .ok (.iconst 0, 1) := by decide +kernel
theorem d_Pd_event_22 : decode c_Pd_event 22 = .ok (.ireturn, 1) := by decide +kernel
theorem d_Pd_event_23 : decode c_Pd_event 23 = .ok (.aload_n 0, 1) := by decide +kernel
theorem d_Pd_event_24 : decode c_Pd_event 24 = .ok (.getfield 10, 3) := by decide +kernel
theorem d_Pd_event_27 : decode c_Pd_event 27 = .ok (.getfield 48, 3) := by decide +kernel
theorem d_Pd_event_30 : decode c_Pd_event 30 = .ok (.iload_n 2, 1) := by decide +kernel
theorem d_Pd_event_31 : decode c_Pd_event 31 = .ok (.aaload, 1) := by decide +kernel
theorem d_Pd_event_32 : decode c_Pd_event 32 = .ok (.iload_n 1, 1) := by decide +kernel
theorem d_Pd_event_33 : decode c_Pd_event 33 = .ok (.iload_n 3, 1) := by decide +kernel
theorem d_Pd_event_34 : decode c_Pd_event 34 = .ok (.invokevirtual 52, 3) := by decide +kernel
theorem d_Pd_event_37 : decode c_Pd_event 37 = .ok (.ireturn, 1) := by decide +kernel
theorem d_Pd_tick_0 : decode c_Pd_tick 0 = .ok (.aload_n 0, 1) := by decide +kernel
theorem d_Pd_tick_1 : decode c_Pd_tick 1 = .ok (.getfield 10, 3) := by decide +kernel
theorem d_Pd_tick_4 : decode c_Pd_tick 4 = .ok (.iload_n 1, 1) := by decide +kernel
theorem d_Pd_tick_5 : decode c_Pd_tick 5 = .ok (.invokevirtual 58, 3) := by decide +kernel
theorem d_Pd_tick_8 : decode c_Pd_tick 8 = .ok (.ireturn, 1) := by decide +kernel
theorem d_Pd_request_0 : decode c_Pd_request 0 = .ok (.iload_n 1, 1) := by decide +kernel
theorem d_Pd_request_1 : decode c_Pd_request 1 = .ok (.iconst 1, 1) := by decide +kernel
theorem d_Pd_request_2 : decode c_Pd_request 2 = .ok (.if_icmp .lt 10, 3) := by decide +kernel
theorem d_Pd_request_5 : decode c_Pd_request 5 = .ok (.iload_n 1, 1) := by decide +kernel
theorem d_Pd_request_6 : decode c_Pd_request 6 = .ok (.sipush 256, 3) := by decide +kernel
theorem d_Pd_request_9 : decode c_Pd_request 9 = .ok (.if_icmp .le 5, 3) := by decide +kernel
theorem d_Pd_request_12 : decode c_Pd_request 12 = .ok (.iconst (-1), 1) := by decide +kernel
theorem d_Pd_request_13 : decode c_Pd_request 13 = .ok (.ireturn, 1) := by decide +kernel
theorem d_Pd_request_14 : decode c_Pd_request 14 = .ok (.aload_n 0, 1) := by decide +kernel
theorem d_Pd_request_15 : decode c_Pd_request 15 = .ok (.getfield 10, 3) := by decide +kernel
theorem d_Pd_request_18 : decode c_Pd_request 18 = .ok (.invokevirtual 62, 3) := by decide +kernel
theorem d_Pd_request_21 : decode c_Pd_request 21 = .ok (.ifCond .eq 10, 3) := by decide +kernel
theorem d_Pd_request_24 : decode c_Pd_request 24 = .ok (.aload_n 0, 1) := by decide +kernel
theorem d_Pd_request_25 : decode c_Pd_request 25 = .ok (.getfield 10, 3) := by decide +kernel
theorem d_Pd_request_28 : decode c_Pd_request 28 = .ok (.invokevirtual 66, 3) := by decide +kernel
theorem d_Pd_request_31 : decode c_Pd_request 31 = .ok (.aload_n 0, 1) := by decide +kernel
theorem d_Pd_request_32 : decode c_Pd_request 32 = .ok (.getfield 10, 3) := by decide +kernel
theorem d_Pd_request_35 : decode c_Pd_request 35 = .ok (.invokevirtual 69, 3) := by decide +kernel
theorem d_Pd_request_38 : decode c_Pd_request 38 = .ok (.ifCond .ne 6, 3) := by decide +kernel
theorem d_Pd_request_41 : decode c_Pd_request 41 = .ok (.bipush (-2), 2) := by decide +kernel
theorem d_Pd_request_43 : decode c_Pd_request 43 = .ok (.ireturn, 1) := by decide +kernel
theorem d_Pd_request_44 : decode c_Pd_request 44 = .ok (.aload_n 0, 1) := by decide +kernel
theorem d_Pd_request_45 : decode c_Pd_request 45 = .ok (.getfield 10, 3) := by decide +kernel
theorem d_Pd_request_48 : decode c_Pd_request 48 = .ok (.iload_n 1, 1) := by decide +kernel
theorem d_Pd_request_49 : decode c_Pd_request 49 = .ok (.aload_n 0, 1) := by decide +kernel
theorem d_Pd_request_50 : decode c_Pd_request 50 = .ok (.getfield 23, 3) := by decide +kernel
theorem d_Pd_request_53 : decode c_Pd_request 53 = .ok (.invokevirtual 72, 3) := by decide +kernel
theorem d_Pd_request_56 : decode c_Pd_request 56 = .ok (.aload_n 0, 1) := by decide +kernel
theorem d_Pd_request_57 : decode c_Pd_request 57 = .ok (.iload_n 1, 1) := by decide +kernel
theorem d_Pd_request_58 : decode c_Pd_request 58 = .ok (.putfield 27, 3) := by decide +kernel
theorem d_Pd_request_61 : decode c_Pd_request 61 = .ok (.iload_n 1, 1) := by decide +kernel
theorem d_Pd_request_62 : decode c_Pd_request 62 = .ok (.ireturn, 1) := by decide +kernel
theorem d_Pd_out_0 : decode c_Pd_out 0 = .ok (.aload_n 0, 1) := by decide +kernel
theorem d_Pd_out_1 : decode c_Pd_out 1 = .ok (.getfield 23, 3) := by decide +kernel
theorem d_Pd_out_4 : decode c_Pd_out 4 = .ok (.iload_n 1, 1) := by decide +kernel
theorem d_Pd_out_5 : decode c_Pd_out 5 = .ok (.aload_n 0, 1) := by decide +kernel
theorem d_Pd_out_6 : decode c_Pd_out 6 = .ok (.getfield 27, 3) := by decide +kernel
theorem d_Pd_out_9 : decode c_Pd_out 9 = .ok (.invokestatic 76, 3) := by decide +kernel
theorem d_Pd_out_12 : decode c_Pd_out 12 = .ok (.ireturn, 1) := by decide +kernel
theorem d_Pd_save_0 : decode c_Pd_save 0 = .ok (.aload_n 0, 1) := by decide +kernel
theorem d_Pd_save_1 : decode c_Pd_save 1 = .ok (.getfield 10, 3) := by decide +kernel
theorem d_Pd_save_4 : decode c_Pd_save 4 = .ok (.invokevirtual 69, 3) := by decide +kernel
theorem d_Pd_save_7 : decode c_Pd_save 7 = .ok (.ifCond .ne 6, 3) := by decide +kernel
theorem d_Pd_save_10 : decode c_Pd_save 10 = .ok (.bipush (-2), 2) := by decide +kernel
theorem d_Pd_save_12 : decode c_Pd_save 12 = .ok (.ireturn, 1) := by decide +kernel
theorem d_Pd_save_13 : decode c_Pd_save 13 = .ok (.aload_n 0, 1) := by decide +kernel
theorem d_Pd_save_14 : decode c_Pd_save 14 = .ok (.invokevirtual 80, 3) := by decide +kernel
theorem d_Pd_save_17 : decode c_Pd_save 17 = .ok (.ireturn, 1) := by decide +kernel
theorem d_Pd_load_0 : decode c_Pd_load 0 = .ok (.aload_n 0, 1) := by decide +kernel
theorem d_Pd_load_1 : decode c_Pd_load 1 = .ok (.getfield 19, 3) := by decide +kernel
theorem d_Pd_load_4 : decode c_Pd_load 4 = .ok (.invokevirtual 84, 3) := by decide +kernel
theorem d_Pd_load_7 : decode c_Pd_load 7 = .ok (.istore_n 1, 1) := by decide +kernel
theorem d_Pd_load_8 : decode c_Pd_load 8 = .ok (.iload_n 1, 1) := by decide +kernel
theorem d_Pd_load_9 : decode c_Pd_load 9 = .ok (.ifCond .ne 5, 3) := by decide +kernel
theorem d_Pd_load_12 : decode c_Pd_load 12 = .ok (.iconst 1, 1) := by decide +kernel
theorem d_Pd_load_13 : decode c_Pd_load 13 = .ok (.ireturn, 1) := by decide +kernel
theorem d_Pd_load_14 : decode c_Pd_load 14 = .ok (.aload_n 0, 1) := by decide +kernel
theorem d_Pd_load_15 : decode c_Pd_load 15 = .ok (.getfield 10, 3) := by decide +kernel
theorem d_Pd_load_18 : decode c_Pd_load 18 = .ok (.aload_n 0, 1) := by decide +kernel
theorem d_Pd_load_19 : decode c_Pd_load 19 = .ok (.getfield 19, 3) := by decide +kernel
theorem d_Pd_load_22 : decode c_Pd_load 22 = .ok (.getfield 87, 3) := by decide +kernel
theorem d_Pd_load_25 : decode c_Pd_load 25 = .ok (.iload_n 1, 1) := by decide +kernel
theorem d_Pd_load_26 : decode c_Pd_load 26 = .ok (.bipush 64, 2) := by decide +kernel
theorem d_Pd_load_28 : decode c_Pd_load 28 = .ok (.invokevirtual 90, 3) := by decide +kernel
theorem d_Pd_load_31 : decode c_Pd_load 31 = .ok (.aload_n 0, 1) := by decide +kernel
theorem d_Pd_load_32 : decode c_Pd_load 32 = .ok (.invokevirtual 80, 3) := by decide +kernel
theorem d_Pd_load_35 : decode c_Pd_load 35 = .ok (.ireturn, 1) := by decide +kernel
theorem d_Pd_crash_0 : decode c_Pd_crash 0 = .ok (.aload_n 0, 1) := by decide +kernel
theorem d_Pd_crash_1 : decode c_Pd_crash 1 = .ok (.getfield 19, 3) := by decide +kernel
theorem d_Pd_crash_4 : decode c_Pd_crash 4 = .ok (.iload_n 1, 1) := by decide +kernel
theorem d_Pd_crash_5 : decode c_Pd_crash 5 = .ok (.invokevirtual 37, 3) := by decide +kernel
theorem d_Pd_crash_8 : decode c_Pd_crash 8 = .ok (.return_, 1) := by decide +kernel
theorem d_Pd_byteOf_0 : decode c_Pd_byteOf 0 = .ok (.iload_n 1, 1) := by decide +kernel
theorem d_Pd_byteOf_1 : decode c_Pd_byteOf 1 = .ok (.tableswitch 87 0 2 #[27, 47, 67], 27) := by decide +kernel
theorem d_Pd_byteOf_28 : decode c_Pd_byteOf 28 = .ok (.aload_n 0, 1) := by decide +kernel
theorem d_Pd_byteOf_29 : decode c_Pd_byteOf 29 = .ok (.getfield 10, 3) := by decide +kernel
theorem d_Pd_byteOf_32 : decode c_Pd_byteOf 32 = .ok (.getfield 94, 3) := by decide +kernel
theorem d_Pd_byteOf_35 : decode c_Pd_byteOf 35 = .ok (.iload_n 2, 1) := by decide +kernel
theorem d_Pd_byteOf_36 : decode c_Pd_byteOf 36 = .ok (.aload_n 0, 1) := by decide +kernel
theorem d_Pd_byteOf_37 : decode c_Pd_byteOf 37 = .ok (.getfield 10, 3) := by decide +kernel
theorem d_Pd_byteOf_40 : decode c_Pd_byteOf 40 = .ok (.getfield 94, 3) := by decide +kernel
theorem d_Pd_byteOf_43 : decode c_Pd_byteOf 43 = .ok (.arraylength, 1) := by decide +kernel
theorem d_Pd_byteOf_44 : decode c_Pd_byteOf 44 = .ok (.invokestatic 76, 3) := by decide +kernel
theorem d_Pd_byteOf_47 : decode c_Pd_byteOf 47 = .ok (.ireturn, 1) := by decide +kernel
theorem d_Pd_byteOf_48 : decode c_Pd_byteOf 48 = .ok (.aload_n 0, 1) := by decide +kernel
theorem d_Pd_byteOf_49 : decode c_Pd_byteOf 49 = .ok (.getfield 10, 3) := by decide +kernel
theorem d_Pd_byteOf_52 : decode c_Pd_byteOf 52 = .ok (.getfield 97, 3) := by decide +kernel
theorem d_Pd_byteOf_55 : decode c_Pd_byteOf 55 = .ok (.iload_n 2, 1) := by decide +kernel
theorem d_Pd_byteOf_56 : decode c_Pd_byteOf 56 = .ok (.aload_n 0, 1) := by decide +kernel
theorem d_Pd_byteOf_57 : decode c_Pd_byteOf 57 = .ok (.getfield 10, 3) := by decide +kernel
theorem d_Pd_byteOf_60 : decode c_Pd_byteOf 60 = .ok (.getfield 97, 3) := by decide +kernel
theorem d_Pd_byteOf_63 : decode c_Pd_byteOf 63 = .ok (.arraylength, 1) := by decide +kernel
theorem d_Pd_byteOf_64 : decode c_Pd_byteOf 64 = .ok (.invokestatic 76, 3) := by decide +kernel
theorem d_Pd_byteOf_67 : decode c_Pd_byteOf 67 = .ok (.ireturn, 1) := by decide +kernel
theorem d_Pd_byteOf_68 : decode c_Pd_byteOf 68 = .ok (.aload_n 0, 1) := by decide +kernel
theorem d_Pd_byteOf_69 : decode c_Pd_byteOf 69 = .ok (.getfield 19, 3) := by decide +kernel
theorem d_Pd_byteOf_72 : decode c_Pd_byteOf 72 = .ok (.getfield 87, 3) := by decide +kernel
theorem d_Pd_byteOf_75 : decode c_Pd_byteOf 75 = .ok (.iload_n 2, 1) := by decide +kernel
theorem d_Pd_byteOf_76 : decode c_Pd_byteOf 76 = .ok (.aload_n 0, 1) := by decide +kernel
theorem d_Pd_byteOf_77 : decode c_Pd_byteOf 77 = .ok (.getfield 19, 3) := by decide +kernel
theorem d_Pd_byteOf_80 : decode c_Pd_byteOf 80 = .ok (.getfield 87, 3) := by decide +kernel
theorem d_Pd_byteOf_83 : decode c_Pd_byteOf 83 = .ok (.arraylength, 1) := by decide +kernel
theorem d_Pd_byteOf_84 : decode c_Pd_byteOf 84 = .ok (.invokestatic 76, 3) := by decide +kernel
theorem d_Pd_byteOf_87 : decode c_Pd_byteOf 87 = .ok (.ireturn, 1) := by decide +kernel
theorem d_Pd_byteOf_88 : decode c_Pd_byteOf 88 = .ok (.aload_n 0, 1) := by decide +kernel
theorem d_Pd_byteOf_89 : decode c_Pd_byteOf 89 = .ok (.iload_n 1, 1) := by decide +kernel
theorem d_Pd_byteOf_90 : decode c_Pd_byteOf 90 = .ok (.iload_n 2, 1) := by decide +kernel
theorem d_Pd_byteOf_91 : decode c_Pd_byteOf 91 = .ok (.invokevirtual 100, 3) := by decide +kernel
theorem d_Pd_byteOf_94 : decode c_Pd_byteOf 94 = .ok (.ireturn, 1) := by decide +kernel
theorem d_Pd_spoil_0 : decode c_Pd_spoil 0 = .ok (.iload_n 1, 1) := by decide +kernel
theorem d_Pd_spoil_1 : decode c_Pd_spoil 1 = .ok (.ifCond .lt 22, 3) := by decide +kernel
theorem d_Pd_spoil_4 : decode c_Pd_spoil 4 = .ok (.iload_n 1, 1) := by decide +kernel
theorem d_Pd_spoil_5 : decode c_Pd_spoil 5 = .ok (.aload_n 0, 1) := by decide +kernel
theorem d_Pd_spoil_6 : decode c_Pd_spoil 6 = .ok (.getfield 19, 3) := by decide +kernel
theorem d_Pd_spoil_9 : decode c_Pd_spoil 9 = .ok (.getfield 87, 3) := by decide +kernel
theorem d_Pd_spoil_12 : decode c_Pd_spoil 12 = .ok (.arraylength, 1) := by decide +kernel
theorem d_Pd_spoil_13 : decode c_Pd_spoil 13 = .ok (.if_icmp .ge 10, 3) := by decide +kernel
theorem d_Pd_spoil_16 : decode c_Pd_spoil 16 = .ok (.iload_n 2, 1) := by decide +kernel
theorem d_Pd_spoil_17 : decode c_Pd_spoil 17 = .ok (.invokestatic 41, 3) := by decide +kernel
theorem d_Pd_spoil_20 : decode c_Pd_spoil 20 = .ok (.ifCond .ne 5, 3) := by decide +kernel
theorem d_Pd_spoil_23 : decode c_Pd_spoil 23 = .ok (.iconst 0, 1) := by decide +kernel
theorem d_Pd_spoil_24 : decode c_Pd_spoil 24 = .ok (.ireturn, 1) := by decide +kernel
theorem d_Pd_spoil_25 : decode c_Pd_spoil 25 = .ok (.aload_n 0, 1) := by decide +kernel
theorem d_Pd_spoil_26 : decode c_Pd_spoil 26 = .ok (.getfield 19, 3) := by decide +kernel
theorem d_Pd_spoil_29 : decode c_Pd_spoil 29 = .ok (.getfield 87, 3) := by decide +kernel
theorem d_Pd_spoil_32 : decode c_Pd_spoil 32 = .ok (.iload_n 1, 1) := by decide +kernel
theorem d_Pd_spoil_33 : decode c_Pd_spoil 33 = .ok (.iload_n 2, 1) := by decide +kernel
theorem d_Pd_spoil_34 : decode c_Pd_spoil 34 = .ok (.iastore, 1) := by decide +kernel
theorem d_Pd_spoil_35 : decode c_Pd_spoil 35 = .ok (.iconst 1, 1) := by decide +kernel
theorem d_Pd_spoil_36 : decode c_Pd_spoil 36 = .ok (.ireturn, 1) := by decide +kernel
theorem d_Pd_about_0 : decode c_Pd_about 0 = .ok (.iload_n 1, 1) := by decide +kernel
theorem d_Pd_about_1 : decode c_Pd_about 1 = .ok (.tableswitch 95 0 5 #[39, 47, 55, 63, 71, 79], 39) := by decide +kernel
theorem d_Pd_about_40 : decode c_Pd_about 40 = .ok (.aload_n 0, 1) := by decide +kernel
theorem d_Pd_about_41 : decode c_Pd_about 41 = .ok (.getfield 10, 3) := by decide +kernel
theorem d_Pd_about_44 : decode c_Pd_about 44 = .ok (.getfield 104, 3) := by decide +kernel
theorem d_Pd_about_47 : decode c_Pd_about 47 = .ok (.ireturn, 1) := by decide +kernel
theorem d_Pd_about_48 : decode c_Pd_about 48 = .ok (.aload_n 0, 1) := by decide +kernel
theorem d_Pd_about_49 : decode c_Pd_about 49 = .ok (.getfield 10, 3) := by decide +kernel
theorem d_Pd_about_52 : decode c_Pd_about 52 = .ok (.getfield 107, 3) := by decide +kernel
theorem d_Pd_about_55 : decode c_Pd_about 55 = .ok (.ireturn, 1) := by decide +kernel
theorem d_Pd_about_56 : decode c_Pd_about 56 = .ok (.aload_n 0, 1) := by decide +kernel
theorem d_Pd_about_57 : decode c_Pd_about 57 = .ok (.getfield 10, 3) := by decide +kernel
theorem d_Pd_about_60 : decode c_Pd_about 60 = .ok (.getfield 110, 3) := by decide +kernel
theorem d_Pd_about_63 : decode c_Pd_about 63 = .ok (.ireturn, 1) := by decide +kernel
theorem d_Pd_about_64 : decode c_Pd_about 64 = .ok (.aload_n 0, 1) := by decide +kernel
theorem d_Pd_about_65 : decode c_Pd_about 65 = .ok (.getfield 19, 3) := by decide +kernel
theorem d_Pd_about_68 : decode c_Pd_about 68 = .ok (.getfield 113, 3) := by decide +kernel
theorem d_Pd_about_71 : decode c_Pd_about 71 = .ok (.ireturn, 1) := by decide +kernel
theorem d_Pd_about_72 : decode c_Pd_about 72 = .ok (.aload_n 0, 1) := by decide +kernel
theorem d_Pd_about_73 : decode c_Pd_about 73 = .ok (.getfield 19, 3) := by decide +kernel
theorem d_Pd_about_76 : decode c_Pd_about 76 = .ok (.getfield 116, 3) := by decide +kernel
theorem d_Pd_about_79 : decode c_Pd_about 79 = .ok (.ireturn, 1) := by decide +kernel
theorem d_Pd_about_80 : decode c_Pd_about 80 = .ok (.aload_n 0, 1) := by decide +kernel
theorem d_Pd_about_81 : decode c_Pd_about 81 = .ok (.getfield 10, 3) := by decide +kernel
theorem d_Pd_about_84 : decode c_Pd_about 84 = .ok (.invokevirtual 69, 3) := by decide +kernel
theorem d_Pd_about_87 : decode c_Pd_about 87 = .ok (.ifCond .eq 7, 3) := by decide +kernel
theorem d_Pd_about_90 : decode c_Pd_about 90 = .ok (.iconst 1, 1) := by decide +kernel
theorem d_Pd_about_91 : decode c_Pd_about 91 = .ok (.goto 4, 3) := by decide +kernel
theorem d_Pd_about_94 : decode c_Pd_about 94 = .ok (.iconst 0, 1) := by decide +kernel
theorem d_Pd_about_95 : decode c_Pd_about 95 = .ok (.ireturn, 1) := by decide +kernel
theorem d_Pd_about_96 : decode c_Pd_about 96 = .ok (.aload_n 0, 1) := by decide +kernel
theorem d_Pd_about_97 : decode c_Pd_about 97 = .ok (.iload_n 1, 1) := by decide +kernel
theorem d_Pd_about_98 : decode c_Pd_about 98 = .ok (.invokevirtual 119, 3) := by decide +kernel
theorem d_Pd_about_101 : decode c_Pd_about 101 = .ok (.ireturn, 1) := by decide +kernel
theorem d_Pd_startAgain_0 : decode c_Pd_startAgain 0 = .ok (.aload_n 0, 1) := by decide +kernel
theorem d_Pd_startAgain_1 : decode c_Pd_startAgain 1 = .ok (.getfield 10, 3) := by decide +kernel
theorem d_Pd_startAgain_4 : decode c_Pd_startAgain 4 = .ok (.invokevirtual 122, 3) := by decide +kernel
theorem d_Pd_startAgain_7 : decode c_Pd_startAgain 7 = .ok (.aload_n 0, 1) := by decide +kernel
theorem d_Pd_startAgain_8 : decode c_Pd_startAgain 8 = .ok (.iconst 0, 1) := by decide +kernel
theorem d_Pd_startAgain_9 : decode c_Pd_startAgain 9 = .ok (.putfield 27, 3) := by decide +kernel
theorem d_Pd_startAgain_12 : decode c_Pd_startAgain 12 = .ok (.return_, 1) := by decide +kernel
theorem d_Pd_saveNewSeed_0 : decode c_Pd_saveNewSeed 0 = .ok (.aload_n 0, 1) := by decide +kernel
theorem d_Pd_saveNewSeed_1 : decode c_Pd_saveNewSeed 1 = .ok (.getfield 10, 3) := by decide +kernel
theorem d_Pd_saveNewSeed_4 : decode c_Pd_saveNewSeed 4 = .ok (.bipush 64, 2) := by decide +kernel
theorem d_Pd_saveNewSeed_6 : decode c_Pd_saveNewSeed 6 = .ok (.aload_n 0, 1) := by decide +kernel
theorem d_Pd_saveNewSeed_7 : decode c_Pd_saveNewSeed 7 = .ok (.getfield 31, 3) := by decide +kernel
theorem d_Pd_saveNewSeed_10 : decode c_Pd_saveNewSeed 10 = .ok (.invokevirtual 72, 3) := by decide +kernel
theorem d_Pd_saveNewSeed_13 : decode c_Pd_saveNewSeed 13 = .ok (.aload_n 0, 1) := by decide +kernel
theorem d_Pd_saveNewSeed_14 : decode c_Pd_saveNewSeed 14 = .ok (.getfield 19, 3) := by decide +kernel
theorem d_Pd_saveNewSeed_17 : decode c_Pd_saveNewSeed 17 = .ok (.aload_n 0, 1) := by decide +kernel
theorem d_Pd_saveNewSeed_18 : decode c_Pd_saveNewSeed 18 = .ok (.getfield 31, 3) := by decide +kernel
theorem d_Pd_saveNewSeed_21 : decode c_Pd_saveNewSeed 21 = .ok (.invokevirtual 125, 3) := by decide +kernel
theorem d_Pd_saveNewSeed_24 : decode c_Pd_saveNewSeed 24 = .ok (.ifCond .eq 5, 3) := by decide +kernel
theorem d_Pd_saveNewSeed_27 : decode c_Pd_saveNewSeed 27 = .ok (.iconst 0, 1) := by decide +kernel
theorem d_Pd_saveNewSeed_28 : decode c_Pd_saveNewSeed 28 = .ok (.ireturn, 1) := by decide +kernel
theorem d_Pd_saveNewSeed_29 : decode c_Pd_saveNewSeed 29 = .ok (.aload_n 0, 1) := by decide +kernel
theorem d_Pd_saveNewSeed_30 : decode c_Pd_saveNewSeed 30 = .ok (.invokevirtual 34, 3) := by decide +kernel
theorem d_Pd_saveNewSeed_33 : decode c_Pd_saveNewSeed 33 = .ok (.iconst 5, 1) := by decide +kernel
theorem d_Pd_saveNewSeed_34 : decode c_Pd_saveNewSeed 34 = .ok (.ireturn, 1) := by decide +kernel
theorem d_Pd_byteOfPool_0 : decode c_Pd_byteOfPool 0 = .ok (.iload_n 1, 1) := by decide +kernel
theorem d_Pd_byteOfPool_1 : decode c_Pd_byteOfPool 1 = .ok (.iconst 3, 1) := by decide +kernel
theorem d_Pd_byteOfPool_2 : decode c_Pd_byteOfPool 2 = .ok (.isub, 1) := by decide +kernel
theorem d_Pd_byteOfPool_3 : decode c_Pd_byteOfPool 3 = .ok (.istore_n 3, 1) := by decide +kernel
theorem d_Pd_byteOfPool_4 : decode c_Pd_byteOfPool 4 = .ok (.iload_n 3, 1) := by decide +kernel
theorem d_Pd_byteOfPool_5 : decode c_Pd_byteOfPool 5 = .ok (.invokestatic 45, 3) := by decide +kernel
theorem d_Pd_byteOfPool_8 : decode c_Pd_byteOfPool 8 = .ok (.ifCond .eq 13, 3) := by decide +kernel
theorem d_Pd_byteOfPool_11 : decode c_Pd_byteOfPool 11 = .ok (.iload_n 2, 1) := by decide +kernel
theorem d_Pd_byteOfPool_12 : decode c_Pd_byteOfPool 12 = .ok (.ifCond .lt 9, 3) := by decide +kernel
theorem d_Pd_byteOfPool_15 : decode c_Pd_byteOfPool 15 = .ok (.iload_n 2, 1) := by decide +kernel
theorem d_Pd_byteOfPool_16 : decode c_Pd_byteOfPool 16 = .ok (.bipush 32, 2) := by decide +kernel
theorem d_Pd_byteOfPool_18 : decode c_Pd_byteOfPool 18 = .ok (.if_icmp .lt 5, 3) := by decide +kernel
theorem d_Pd_byteOfPool_21 : decode c_Pd_byteOfPool 21 = .ok (.iconst (-1), 1) := by decide +kernel
theorem d_Pd_byteOfPool_22 : decode c_Pd_byteOfPool 22 = .ok (.ireturn, 1) := by decide +kernel
theorem d_Pd_byteOfPool_23 : decode c_Pd_byteOfPool 23 = .ok (.aload_n 0, 1) := by decide +kernel
theorem d_Pd_byteOfPool_24 : decode c_Pd_byteOfPool 24 = .ok (.getfield 10, 3) := by decide +kernel
theorem d_Pd_byteOfPool_27 : decode c_Pd_byteOfPool 27 = .ok (.iload_n 3, 1) := by decide +kernel
theorem d_Pd_byteOfPool_28 : decode c_Pd_byteOfPool 28 = .ok (.iload_n 2, 1) := by decide +kernel
theorem d_Pd_byteOfPool_29 : decode c_Pd_byteOfPool 29 = .ok (.invokevirtual 131, 3) := by decide +kernel
theorem d_Pd_byteOfPool_32 : decode c_Pd_byteOfPool 32 = .ok (.ireturn, 1) := by decide +kernel
theorem d_Pd_sizeOfPool_0 : decode c_Pd_sizeOfPool 0 = .ok (.iload_n 1, 1) := by decide +kernel
theorem d_Pd_sizeOfPool_1 : decode c_Pd_sizeOfPool 1 = .ok (.bipush 6, 2) := by decide +kernel
theorem d_Pd_sizeOfPool_3 : decode c_Pd_sizeOfPool 3 = .ok (.isub, 1) := by decide +kernel
theorem d_Pd_sizeOfPool_4 : decode c_Pd_sizeOfPool 4 = .ok (.istore_n 2, 1) := by decide +kernel
theorem d_Pd_sizeOfPool_5 : decode c_Pd_sizeOfPool 5 = .ok (.iload_n 2, 1) := by decide +kernel
theorem d_Pd_sizeOfPool_6 : decode c_Pd_sizeOfPool 6 = .ok (.invokestatic 45, 3) := by decide +kernel
theorem d_Pd_sizeOfPool_9 : decode c_Pd_sizeOfPool 9 = .ok (.ifCond .eq 18, 3) := by decide +kernel
theorem d_Pd_sizeOfPool_12 : decode c_Pd_sizeOfPool 12 = .ok (.aload_n 0, 1) := by decide +kernel
theorem d_Pd_sizeOfPool_13 : decode c_Pd_sizeOfPool 13 = .ok (.getfield 10, 3) := by decide +kernel
theorem d_Pd_sizeOfPool_16 : decode c_Pd_sizeOfPool 16 = .ok (.getfield 48, 3) := by decide +kernel
theorem d_Pd_sizeOfPool_19 : decode c_Pd_sizeOfPool 19 = .ok (.iload_n 2, 1) := by decide +kernel
theorem d_Pd_sizeOfPool_20 : decode c_Pd_sizeOfPool 20 = .ok (.aaload, 1) := by decide +kernel
theorem d_Pd_sizeOfPool_21 : decode c_Pd_sizeOfPool 21 = .ok (.getfield 134, 3) := by decide +kernel
theorem d_Pd_sizeOfPool_24 : decode c_Pd_sizeOfPool 24 = .ok (.goto 4, 3) := by decide +kernel
theorem d_Pd_sizeOfPool_27 : decode c_Pd_sizeOfPool 27 = .ok (.iconst (-1), 1) := by decide +kernel
theorem d_Pd_sizeOfPool_28 : decode c_Pd_sizeOfPool 28 = .ok (.ireturn, 1) := by decide +kernel
theorem d_Pd_byteAt_0 : decode c_Pd_byteAt 0 = .ok (.iload_n 1, 1) := by decide +kernel
theorem d_Pd_byteAt_1 : decode c_Pd_byteAt 1 = .ok (.ifCond .lt 14, 3) := by decide +kernel
theorem d_Pd_byteAt_4 : decode c_Pd_byteAt 4 = .ok (.iload_n 1, 1) := by decide +kernel
theorem d_Pd_byteAt_5 : decode c_Pd_byteAt 5 = .ok (.iload_n 2, 1) := by decide +kernel
theorem d_Pd_byteAt_6 : decode c_Pd_byteAt 6 = .ok (.if_icmp .ge 9, 3) := by decide +kernel
theorem d_Pd_byteAt_9 : decode c_Pd_byteAt 9 = .ok (.aload_n 0, 1) := by decide +kernel
theorem d_Pd_byteAt_10 : decode c_Pd_byteAt 10 = .ok (.iload_n 1, 1) := by decide +kernel
theorem d_Pd_byteAt_11 : decode c_Pd_byteAt 11 = .ok (.iaload, 1) := by decide +kernel
theorem d_Pd_byteAt_12 : decode c_Pd_byteAt 12 = .ok (.goto 4, 3) := by decide +kernel
theorem d_Pd_byteAt_15 : decode c_Pd_byteAt 15 = .ok (.iconst (-1), 1) := by decide +kernel
theorem d_Pd_byteAt_16 : decode c_Pd_byteAt 16 = .ok (.ireturn, 1) := by decide +kernel
theorem d_Pd_isByte_0 : decode c_Pd_isByte 0 = .ok (.iload_n 0, 1) := by decide +kernel
theorem d_Pd_isByte_1 : decode c_Pd_isByte 1 = .ok (.ifCond .lt 14, 3) := by decide +kernel
theorem d_Pd_isByte_4 : decode c_Pd_isByte 4 = .ok (.iload_n 0, 1) := by decide +kernel
theorem d_Pd_isByte_5 : decode c_Pd_isByte 5 = .ok (.sipush 255, 3) := by decide +kernel
theorem d_Pd_isByte_8 : decode c_Pd_isByte 8 = .ok (.if_icmp .gt 7, 3) := by decide +kernel
theorem d_Pd_isByte_11 : decode c_Pd_isByte 11 = .ok (.iconst 1, 1) := by decide +kernel
theorem d_Pd_isByte_12 : decode c_Pd_isByte 12 = .ok (.goto 4, 3) := by decide +kernel
theorem d_Pd_isByte_15 : decode c_Pd_isByte 15 = .ok (.iconst 0, 1) := by decide +kernel
theorem d_Pd_isByte_16 : decode c_Pd_isByte 16 = .ok (.ireturn, 1) := by decide +kernel
theorem d_Pd_isPool_0 : decode c_Pd_isPool 0 = .ok (.iload_n 0, 1) := by decide +kernel
theorem d_Pd_isPool_1 : decode c_Pd_isPool 1 = .ok (.ifCond .lt 13, 3) := by decide +kernel
theorem d_Pd_isPool_4 : decode c_Pd_isPool 4 = .ok (.iload_n 0, 1) := by decide +kernel
theorem d_Pd_isPool_5 : decode c_Pd_isPool 5 = .ok (.bipush 32, 2) := by decide +kernel
theorem d_Pd_isPool_7 : decode c_Pd_isPool 7 = .ok (.if_icmp .ge 7, 3) := by decide +kernel
theorem d_Pd_isPool_10 : decode c_Pd_isPool 10 = .ok (.iconst 1, 1) := by decide +kernel
theorem d_Pd_isPool_11 : decode c_Pd_isPool 11 = .ok (.goto 4, 3) := by decide +kernel
theorem d_Pd_isPool_14 : decode c_Pd_isPool 14 = .ok (.iconst 0, 1) := by decide +kernel
theorem d_Pd_isPool_15 : decode c_Pd_isPool 15 = .ok (.ireturn, 1) := by decide +kernel
theorem d_Mo_new_0 : decode c_Mo_new 0 = .ok (.aload_n 0, 1) := by decide +kernel
theorem d_Mo_new_1 : decode c_Mo_new 1 = .ok (.invokespecial 1, 3) := by decide +kernel
theorem d_Mo_new_4 : decode c_Mo_new 4 = .ok (.aload_n 0, 1) := by decide +kernel
theorem d_Mo_new_5 : decode c_Mo_new 5 = .ok (.bipush 16, 2) := by decide +kernel
theorem d_Mo_new_7 : decode c_Mo_new 7 = .ok (.newarray .int, 2) := by decide +kernel
theorem d_Mo_new_9 : decode c_Mo_new 9 = .ok (.putfield 7, 3) := by decide +kernel
theorem d_Mo_new_12 : decode c_Mo_new 12 = .ok (.aload_n 0, 1) := by decide +kernel
theorem d_Mo_new_13 : decode c_Mo_new 13 = .ok (.bipush 16, 2) := by decide +kernel
theorem d_Mo_new_15 : decode c_Mo_new 15 = .ok (.newarray .int, 2) := by decide +kernel
theorem d_Mo_new_17 : decode c_Mo_new 17 = .ok (.putfield 13, 3) := by decide +kernel
theorem d_Mo_new_20 : decode c_Mo_new 20 = .ok (.aload_n 0, 1) := by decide +kernel
theorem d_Mo_new_21 : decode c_Mo_new 21 = .ok (.iconst (-1), 1) := by decide +kernel
theorem d_Mo_new_22 : decode c_Mo_new 22 = .ok (.putfield 16, 3) := by decide +kernel
theorem d_Mo_new_25 : decode c_Mo_new 25 = .ok (.aload_n 0, 1) := by decide +kernel
theorem d_Mo_new_26 : decode c_Mo_new 26 = .ok (.bipush 32, 2) := by decide +kernel
theorem d_Mo_new_28 : decode c_Mo_new 28 = .ok (.newarray .int, 2) := by decide +kernel
theorem d_Mo_new_30 : decode c_Mo_new 30 = .ok (.putfield 20, 3) := by decide +kernel
theorem d_Mo_new_33 : decode c_Mo_new 33 = .ok (.aload_n 0, 1) := by decide +kernel
theorem d_Mo_new_34 : decode c_Mo_new 34 = .ok (.ldc 23, 2) := by decide +kernel
theorem d_Mo_new_36 : decode c_Mo_new 36 = .ok (.newarray .int, 2) := by decide +kernel
theorem d_Mo_new_38 : decode c_Mo_new 38 = .ok (.putfield 24, 3) := by decide +kernel
theorem d_Mo_new_41 : decode c_Mo_new 41 = .ok (.aload_n 0, 1) := by decide +kernel
theorem d_Mo_new_42 : decode c_Mo_new 42 = .ok (.sipush 256, 3) := by decide +kernel
theorem d_Mo_new_45 : decode c_Mo_new 45 = .ok (.newarray .int, 2) := by decide +kernel
theorem d_Mo_new_47 : decode c_Mo_new 47 = .ok (.putfield 27, 3) := by decide +kernel
theorem d_Mo_new_50 : decode c_Mo_new 50 = .ok (.aload_n 0, 1) := by decide +kernel
theorem d_Mo_new_51 : decode c_Mo_new 51 = .ok (.sipush 129, 3) := by decide +kernel
theorem d_Mo_new_54 : decode c_Mo_new 54 = .ok (.newarray .int, 2) := by decide +kernel
theorem d_Mo_new_56 : decode c_Mo_new 56 = .ok (.putfield 30, 3) := by decide +kernel
theorem d_Mo_new_59 : decode c_Mo_new 59 = .ok (.aload_n 0, 1) := by decide +kernel
theorem d_Mo_new_60 : decode c_Mo_new 60 = .ok (.sipush 2000, 3) := by decide +kernel
theorem d_Mo_new_63 : decode c_Mo_new 63 = .ok (.newarray .int, 2) := by decide +kernel
theorem d_Mo_new_65 : decode c_Mo_new 65 = .ok (.putfield 33, 3) := by decide +kernel
theorem d_Mo_new_68 : decode c_Mo_new 68 = .ok (.aload_n 0, 1) := by decide +kernel
theorem d_Mo_new_69 : decode c_Mo_new 69 = .ok (.bipush 64, 2) := by decide +kernel
theorem d_Mo_new_71 : decode c_Mo_new 71 = .ok (.newarray .int, 2) := by decide +kernel
theorem d_Mo_new_73 : decode c_Mo_new 73 = .ok (.putfield 36, 3) := by decide +kernel
theorem d_Mo_new_76 : decode c_Mo_new 76 = .ok (.aload_n 0, 1) := by decide +kernel
theorem d_Mo_new_77 : decode c_Mo_new 77 = .ok (.bipush 8, 2) := by decide +kernel
theorem d_Mo_new_79 : decode c_Mo_new 79 = .ok (.newarray .int, 2) := by decide +kernel
theorem d_Mo_new_81 : decode c_Mo_new 81 = .ok (.putfield 39, 3) := by decide +kernel
theorem d_Mo_new_84 : decode c_Mo_new 84 = .ok (.aload_n 0, 1) := by decide +kernel
theorem d_Mo_new_85 : decode c_Mo_new 85 = .ok (.bipush 32, 2) := by decide +kernel
theorem d_Mo_new_87 : decode c_Mo_new 87 = .ok (.newarray .int, 2) := by decide +kernel
theorem d_Mo_new_89 : decode c_Mo_new 89 = .ok (.putfield 42, 3) := by decide +kernel
theorem d_Mo_new_92 : decode c_Mo_new 92 = .ok (.aload_n 0, 1) := by decide +kernel
theorem d_Mo_new_93 : decode c_Mo_new 93 = .ok (.sipush 1024, 3) := by decide +kernel
theorem d_Mo_new_96 : decode c_Mo_new 96 = .ok (.newarray .int, 2) := by decide +kernel
theorem d_Mo_new_98 : decode c_Mo_new 98 = .ok (.putfield 45, 3) := by decide +kernel
theorem d_Mo_new_101 : decode c_Mo_new 101 = .ok (.aload_n 0, 1) := by decide +kernel
theorem d_Mo_new_102 : decode c_Mo_new 102 = .ok (.sipush 272, 3) := by decide +kernel
theorem d_Mo_new_105 : decode c_Mo_new 105 = .ok (.newarray .int, 2) := by decide +kernel
theorem d_Mo_new_107 : decode c_Mo_new 107 = .ok (.putfield 48, 3) := by decide +kernel
theorem d_Mo_new_110 : decode c_Mo_new 110 = .ok (.aload_n 0, 1) := by decide +kernel
theorem d_Mo_new_111 : decode c_Mo_new 111 = .ok (.bipush 16, 2) := by decide +kernel
theorem d_Mo_new_113 : decode c_Mo_new 113 = .ok (.newarray .int, 2) := by decide +kernel
theorem d_Mo_new_115 : decode c_Mo_new 115 = .ok (.putfield 51, 3) := by decide +kernel
theorem d_Mo_new_118 : decode c_Mo_new 118 = .ok (.aload_n 0, 1) := by decide +kernel
theorem d_Mo_new_119 : decode c_Mo_new 119 = .ok (.bipush 16, 2) := by decide +kernel
theorem d_Mo_new_121 : decode c_Mo_new 121 = .ok (.newarray .int, 2) := by decide +kernel
theorem d_Mo_new_123 : decode c_Mo_new 123 = .ok (.putfield 54, 3) := by decide +kernel
theorem d_Mo_new_126 : decode c_Mo_new 126 = .ok (.aload_n 0, 1) := by decide +kernel
theorem d_Mo_new_127 : decode c_Mo_new 127 = .ok (.sipush 176, 3) := by decide +kernel
theorem d_Mo_new_130 : decode c_Mo_new 130 = .ok (.newarray .int, 2) := by decide +kernel
theorem d_Mo_new_132 : decode c_Mo_new 132 = .ok (.putfield 57, 3) := by decide +kernel
theorem d_Mo_new_135 : decode c_Mo_new 135 = .ok (.aload_n 0, 1) := by decide +kernel
theorem d_Mo_new_136 : decode c_Mo_new 136 = .ok (.sipush 256, 3) := by decide +kernel
theorem d_Mo_new_139 : decode c_Mo_new 139 = .ok (.newarray .int, 2) := by decide +kernel
theorem d_Mo_new_141 : decode c_Mo_new 141 = .ok (.putfield 60, 3) := by decide +kernel
theorem d_Mo_new_144 : decode c_Mo_new 144 = .ok (.return_, 1) := by decide +kernel
theorem d_Mo_in_0 : decode c_Mo_in 0 = .ok (.iload_n 0, 1) := by decide +kernel
theorem d_Mo_in_1 : decode c_Mo_in 1 = .ok (.ifCond .lt 12, 3) := by decide +kernel
theorem d_Mo_in_4 : decode c_Mo_in 4 = .ok (.iload_n 0, 1) := by decide +kernel
theorem d_Mo_in_5 : decode c_Mo_in 5 = .ok (.iload_n 1, 1) := by decide +kernel
theorem d_Mo_in_6 : decode c_Mo_in 6 = .ok (.if_icmp .ge 7, 3) := by decide +kernel
theorem d_Mo_in_9 : decode c_Mo_in 9 = .ok (.iconst 1, 1) := by decide +kernel
theorem d_Mo_in_10 : decode c_Mo_in 10 = .ok (.goto 4, 3) := by decide +kernel
theorem d_Mo_in_13 : decode c_Mo_in 13 = .ok (.iconst 0, 1) := by decide +kernel
theorem d_Mo_in_14 : decode c_Mo_in 14 = .ok (.ireturn, 1) := by decide +kernel
theorem d_Mo_constant_0 : decode c_Mo_constant 0 = .ok (.iload_n 0, 1) := by decide +kernel
theorem d_Mo_constant_1 : decode c_Mo_constant 1 = .ok (.tableswitch 456 0 62 #[267, 270, 273, 276, 279, 282, 285, 288, 291, 294, 297, 300, 303, 306, 309, 312, 315, 318, 321, 324, 327, 330, 333, 336, 339, 342, 345, 348, 351, 354, 357, 360, 363, 366, 369, 372, 375, 378, 381, 384, 387, 390, 393, 396, 399, 402, 405, 408, 411, 414, 417, 420, 423, 426, 429, 432, 435, 438, 441, 444, 447, 450, 453], 267) := by decide +kernel
theorem d_Mo_constant_268 : decode c_Mo_constant 268 = .ok (.ldc 66, 2) := by decide +kernel
theorem d_Mo_constant_270 : decode c_Mo_constant 270 = .ok (.ireturn, 1) := by decide +kernel
theorem d_Mo_constant_271 : decode c_Mo_constant 271 = .ok (.ldc 67, 2) := by decide +kernel
theorem d_Mo_constant_273 : decode c_Mo_constant 273 = .ok (.ireturn, 1) := by decide +kernel
theorem d_Mo_constant_274 : decode c_Mo_constant 274 = .ok (.ldc 68, 2) := by decide +kernel
theorem d_Mo_constant_276 : decode c_Mo_constant 276 = .ok (.ireturn, 1) := by decide +kernel
theorem d_Mo_constant_277 : decode c_Mo_constant 277 = .ok (.ldc 69, 2) := by decide +kernel
theorem d_Mo_constant_279 : decode c_Mo_constant 279 = .ok (.ireturn, 1) := by decide +kernel
theorem d_Mo_constant_280 : decode c_Mo_constant 280 = .ok (.ldc 70, 2) := by decide +kernel
theorem d_Mo_constant_282 : decode c_Mo_constant 282 = .ok (.ireturn, 1) := by decide +kernel
theorem d_Mo_constant_283 : decode c_Mo_constant 283 = .ok (.ldc 71, 2) := by decide +kernel
theorem d_Mo_constant_285 : decode c_Mo_constant 285 = .ok (.ireturn, 1) := by decide +kernel
theorem d_Mo_constant_286 : decode c_Mo_constant 286 = .ok (.ldc 72, 2) := by decide +kernel
theorem d_Mo_constant_288 : decode c_Mo_constant 288 = .ok (.ireturn, 1) := by decide +kernel
theorem d_Mo_constant_289 : decode c_Mo_constant 289 = .ok (.ldc 73, 2) := by decide +kernel
theorem d_Mo_constant_291 : decode c_Mo_constant 291 = .ok (.ireturn, 1) := by decide +kernel
theorem d_Mo_constant_292 : decode c_Mo_constant 292 = .ok (.ldc 74, 2) := by decide +kernel
theorem d_Mo_constant_294 : decode c_Mo_constant 294 = .ok (.ireturn, 1) := by decide +kernel
theorem d_Mo_constant_295 : decode c_Mo_constant 295 = .ok (.ldc 75, 2) := by decide +kernel
theorem d_Mo_constant_297 : decode c_Mo_constant 297 = .ok (.ireturn, 1) := by decide +kernel
theorem d_Mo_constant_298 : decode c_Mo_constant 298 = .ok (.ldc 76, 2) := by decide +kernel
theorem d_Mo_constant_300 : decode c_Mo_constant 300 = .ok (.ireturn, 1) := by decide +kernel
theorem d_Mo_constant_301 : decode c_Mo_constant 301 = .ok (.ldc 77, 2) := by decide +kernel
theorem d_Mo_constant_303 : decode c_Mo_constant 303 = .ok (.ireturn, 1) := by decide +kernel
theorem d_Mo_constant_304 : decode c_Mo_constant 304 = .ok (.ldc 78, 2) := by decide +kernel
theorem d_Mo_constant_306 : decode c_Mo_constant 306 = .ok (.ireturn, 1) := by decide +kernel
theorem d_Mo_constant_307 : decode c_Mo_constant 307 = .ok (.ldc 79, 2) := by decide +kernel
theorem d_Mo_constant_309 : decode c_Mo_constant 309 = .ok (.ireturn, 1) := by decide +kernel
theorem d_Mo_constant_310 : decode c_Mo_constant 310 = .ok (.ldc 80, 2) := by decide +kernel
theorem d_Mo_constant_312 : decode c_Mo_constant 312 = .ok (.ireturn, 1) := by decide +kernel
theorem d_Mo_constant_313 : decode c_Mo_constant 313 = .ok (.ldc 81, 2) := by decide +kernel
theorem d_Mo_constant_315 : decode c_Mo_constant 315 = .ok (.ireturn, 1) := by decide +kernel
theorem d_Mo_constant_316 : decode c_Mo_constant 316 = .ok (.ldc 82, 2) := by decide +kernel
theorem d_Mo_constant_318 : decode c_Mo_constant 318 = .ok (.ireturn, 1) := by decide +kernel
theorem d_Mo_constant_319 : decode c_Mo_constant 319 = .ok (.ldc 83, 2) := by decide +kernel
theorem d_Mo_constant_321 : decode c_Mo_constant 321 = .ok (.ireturn, 1) := by decide +kernel
theorem d_Mo_constant_322 : decode c_Mo_constant 322 = .ok (.ldc 84, 2) := by decide +kernel
theorem d_Mo_constant_324 : decode c_Mo_constant 324 = .ok (.ireturn, 1) := by decide +kernel
theorem d_Mo_constant_325 : decode c_Mo_constant 325 = .ok (.ldc 85, 2) := by decide +kernel
theorem d_Mo_constant_327 : decode c_Mo_constant 327 = .ok (.ireturn, 1) := by decide +kernel
theorem d_Mo_constant_328 : decode c_Mo_constant 328 = .ok (.ldc 86, 2) := by decide +kernel
theorem d_Mo_constant_330 : decode c_Mo_constant 330 = .ok (.ireturn, 1) := by decide +kernel
theorem d_Mo_constant_331 : decode c_Mo_constant 331 = .ok (.ldc 87, 2) := by decide +kernel
theorem d_Mo_constant_333 : decode c_Mo_constant 333 = .ok (.ireturn, 1) := by decide +kernel
theorem d_Mo_constant_334 : decode c_Mo_constant 334 = .ok (.ldc 88, 2) := by decide +kernel
theorem d_Mo_constant_336 : decode c_Mo_constant 336 = .ok (.ireturn, 1) := by decide +kernel
theorem d_Mo_constant_337 : decode c_Mo_constant 337 = .ok (.ldc 89, 2) := by decide +kernel
theorem d_Mo_constant_339 : decode c_Mo_constant 339 = .ok (.ireturn, 1) := by decide +kernel
theorem d_Mo_constant_340 : decode c_Mo_constant 340 = .ok (.ldc 90, 2) := by decide +kernel
theorem d_Mo_constant_342 : decode c_Mo_constant 342 = .ok (.ireturn, 1) := by decide +kernel
theorem d_Mo_constant_343 : decode c_Mo_constant 343 = .ok (.ldc 91, 2) := by decide +kernel
theorem d_Mo_constant_345 : decode c_Mo_constant 345 = .ok (.ireturn, 1) := by decide +kernel
theorem d_Mo_constant_346 : decode c_Mo_constant 346 = .ok (.ldc 92, 2) := by decide +kernel
theorem d_Mo_constant_348 : decode c_Mo_constant 348 = .ok (.ireturn, 1) := by decide +kernel
theorem d_Mo_constant_349 : decode c_Mo_constant 349 = .ok (.ldc 93, 2) := by decide +kernel
theorem d_Mo_constant_351 : decode c_Mo_constant 351 = .ok (.ireturn, 1) := by decide +kernel
theorem d_Mo_constant_352 : decode c_Mo_constant 352 = .ok (.ldc 94, 2) := by decide +kernel
theorem d_Mo_constant_354 : decode c_Mo_constant 354 = .ok (.ireturn, 1) := by decide +kernel
theorem d_Mo_constant_355 : decode c_Mo_constant 355 = .ok (.ldc 95, 2) := by decide +kernel
theorem d_Mo_constant_357 : decode c_Mo_constant 357 = .ok (.ireturn, 1) := by decide +kernel
theorem d_Mo_constant_358 : decode c_Mo_constant 358 = .ok (.ldc 96, 2) := by decide +kernel
theorem d_Mo_constant_360 : decode c_Mo_constant 360 = .ok (.ireturn, 1) := by decide +kernel
theorem d_Mo_constant_361 : decode c_Mo_constant 361 = .ok (.ldc 97, 2) := by decide +kernel
theorem d_Mo_constant_363 : decode c_Mo_constant 363 = .ok (.ireturn, 1) := by decide +kernel
theorem d_Mo_constant_364 : decode c_Mo_constant 364 = .ok (.ldc 98, 2) := by decide +kernel
theorem d_Mo_constant_366 : decode c_Mo_constant 366 = .ok (.ireturn, 1) := by decide +kernel
theorem d_Mo_constant_367 : decode c_Mo_constant 367 = .ok (.ldc 99, 2) := by decide +kernel
theorem d_Mo_constant_369 : decode c_Mo_constant 369 = .ok (.ireturn, 1) := by decide +kernel
theorem d_Mo_constant_370 : decode c_Mo_constant 370 = .ok (.ldc 100, 2) := by decide +kernel
theorem d_Mo_constant_372 : decode c_Mo_constant 372 = .ok (.ireturn, 1) := by decide +kernel
theorem d_Mo_constant_373 : decode c_Mo_constant 373 = .ok (.ldc 101, 2) := by decide +kernel
theorem d_Mo_constant_375 : decode c_Mo_constant 375 = .ok (.ireturn, 1) := by decide +kernel
theorem d_Mo_constant_376 : decode c_Mo_constant 376 = .ok (.ldc 102, 2) := by decide +kernel
theorem d_Mo_constant_378 : decode c_Mo_constant 378 = .ok (.ireturn, 1) := by decide +kernel
theorem d_Mo_constant_379 : decode c_Mo_constant 379 = .ok (.ldc 103, 2) := by decide +kernel
theorem d_Mo_constant_381 : decode c_Mo_constant 381 = .ok (.ireturn, 1) := by decide +kernel
theorem d_Mo_constant_382 : decode c_Mo_constant 382 = .ok (.ldc 104, 2) := by decide +kernel
theorem d_Mo_constant_384 : decode c_Mo_constant 384 = .ok (.ireturn, 1) := by decide +kernel
theorem d_Mo_constant_385 : decode c_Mo_constant 385 = .ok (.ldc 105, 2) := by decide +kernel
theorem d_Mo_constant_387 : decode c_Mo_constant 387 = .ok (.ireturn, 1) := by decide +kernel
theorem d_Mo_constant_388 : decode c_Mo_constant 388 = .ok (.ldc 106, 2) := by decide +kernel
theorem d_Mo_constant_390 : decode c_Mo_constant 390 = .ok (.ireturn, 1) := by decide +kernel
theorem d_Mo_constant_391 : decode c_Mo_constant 391 = .ok (.ldc 107, 2) := by decide +kernel
theorem d_Mo_constant_393 : decode c_Mo_constant 393 = .ok (.ireturn, 1) := by decide +kernel
theorem d_Mo_constant_394 : decode c_Mo_constant 394 = .ok (.ldc 108, 2) := by decide +kernel
theorem d_Mo_constant_396 : decode c_Mo_constant 396 = .ok (.ireturn, 1) := by decide +kernel
theorem d_Mo_constant_397 : decode c_Mo_constant 397 = .ok (.ldc 109, 2) := by decide +kernel
theorem d_Mo_constant_399 : decode c_Mo_constant 399 = .ok (.ireturn, 1) := by decide +kernel
theorem d_Mo_constant_400 : decode c_Mo_constant 400 = .ok (.ldc 110, 2) := by decide +kernel
theorem d_Mo_constant_402 : decode c_Mo_constant 402 = .ok (.ireturn, 1) := by decide +kernel
theorem d_Mo_constant_403 : decode c_Mo_constant 403 = .ok (.ldc 111, 2) := by decide +kernel
theorem d_Mo_constant_405 : decode c_Mo_constant 405 = .ok (.ireturn, 1) := by decide +kernel
theorem d_Mo_constant_406 : decode c_Mo_constant 406 = .ok (.ldc 112, 2) := by decide +kernel
theorem d_Mo_constant_408 : decode c_Mo_constant 408 = .ok (.ireturn, 1) := by decide +kernel
theorem d_Mo_constant_409 : decode c_Mo_constant 409 = .ok (.ldc 113, 2) := by decide +kernel
theorem d_Mo_constant_411 : decode c_Mo_constant 411 = .ok (.ireturn, 1) := by decide +kernel
theorem d_Mo_constant_412 : decode c_Mo_constant 412 = .ok (.ldc 114, 2) := by decide +kernel
theorem d_Mo_constant_414 : decode c_Mo_constant 414 = .ok (.ireturn, 1) := by decide +kernel
theorem d_Mo_constant_415 : decode c_Mo_constant 415 = .ok (.ldc 115, 2) := by decide +kernel
theorem d_Mo_constant_417 : decode c_Mo_constant 417 = .ok (.ireturn, 1) := by decide +kernel
theorem d_Mo_constant_418 : decode c_Mo_constant 418 = .ok (.ldc 116, 2) := by decide +kernel
theorem d_Mo_constant_420 : decode c_Mo_constant 420 = .ok (.ireturn, 1) := by decide +kernel
theorem d_Mo_constant_421 : decode c_Mo_constant 421 = .ok (.ldc 117, 2) := by decide +kernel
theorem d_Mo_constant_423 : decode c_Mo_constant 423 = .ok (.ireturn, 1) := by decide +kernel
theorem d_Mo_constant_424 : decode c_Mo_constant 424 = .ok (.ldc 118, 2) := by decide +kernel
theorem d_Mo_constant_426 : decode c_Mo_constant 426 = .ok (.ireturn, 1) := by decide +kernel
theorem d_Mo_constant_427 : decode c_Mo_constant 427 = .ok (.ldc 119, 2) := by decide +kernel
theorem d_Mo_constant_429 : decode c_Mo_constant 429 = .ok (.ireturn, 1) := by decide +kernel
theorem d_Mo_constant_430 : decode c_Mo_constant 430 = .ok (.ldc 120, 2) := by decide +kernel
theorem d_Mo_constant_432 : decode c_Mo_constant 432 = .ok (.ireturn, 1) := by decide +kernel
theorem d_Mo_constant_433 : decode c_Mo_constant 433 = .ok (.ldc 121, 2) := by decide +kernel
theorem d_Mo_constant_435 : decode c_Mo_constant 435 = .ok (.ireturn, 1) := by decide +kernel
theorem d_Mo_constant_436 : decode c_Mo_constant 436 = .ok (.ldc 122, 2) := by decide +kernel
theorem d_Mo_constant_438 : decode c_Mo_constant 438 = .ok (.ireturn, 1) := by decide +kernel
theorem d_Mo_constant_439 : decode c_Mo_constant 439 = .ok (.ldc 123, 2) := by decide +kernel
theorem d_Mo_constant_441 : decode c_Mo_constant 441 = .ok (.ireturn, 1) := by decide +kernel
theorem d_Mo_constant_442 : decode c_Mo_constant 442 = .ok (.ldc 124, 2) := by decide +kernel
theorem d_Mo_constant_444 : decode c_Mo_constant 444 = .ok (.ireturn, 1) := by decide +kernel
theorem d_Mo_constant_445 : decode c_Mo_constant 445 = .ok (.ldc 125, 2) := by decide +kernel
theorem d_Mo_constant_447 : decode c_Mo_constant 447 = .ok (.ireturn, 1) := by decide +kernel
theorem d_Mo_constant_448 : decode c_Mo_constant 448 = .ok (.ldc 126, 2) := by decide +kernel
theorem d_Mo_constant_450 : decode c_Mo_constant 450 = .ok (.ireturn, 1) := by decide +kernel
end
section
theorem d_Mo_constant_451 : decode c_Mo_constant 451 = .ok (.ldc 127, 2) := by decide +kernel
theorem d_Mo_constant_453 : decode c_Mo_constant 453 = .ok (.ireturn, 1) := by decide +kernel
theorem d_Mo_constant_454 : decode c_Mo_constant 454 = .ok (.ldc 128, 2) := by decide +kernel
theorem d_Mo_constant_456 : decode c_Mo_constant 456 = .ok (.ireturn, 1) := by decide +kernel
theorem d_Mo_constant_457 : decode c_Mo_constant 457 = .ok (.ldc 129, 2) := by decide +kernel
theorem d_Mo_constant_459 : decode c_Mo_constant 459 = .ok (.ireturn, 1) := by decide +kernel
theorem d_Mo_right_0 : decode c_Mo_right 0 = .ok (.iload_n 0, 1) := by decide +kernel
theorem d_Mo_right_1 : decode c_Mo_right 1 = .ok (.iload_n 1, 1) := by decide +kernel
theorem d_Mo_right_2 : decode c_Mo_right 2 = .ok (.iushr, 1) := by decide +kernel
theorem d_Mo_right_3 : decode c_Mo_right 3 = .ok (.iload_n 0, 1) := by decide +kernel
theorem d_Mo_right_4 : decode c_Mo_right 4 = .ok (.bipush 32, 2) := by decide +kernel
theorem d_Mo_right_6 : decode c_Mo_right 6 = .ok (.iload_n 1, 1) := by decide +kernel
theorem d_Mo_right_7 : decode c_Mo_right 7 = .ok (.isub, 1) := by decide +kernel
theorem d_Mo_right_8 : decode c_Mo_right 8 = .ok (.ishl, 1) := by decide +kernel
theorem d_Mo_right_9 : decode c_Mo_right 9 = .ok (.ior, 1) := by decide +kernel
theorem d_Mo_right_10 : decode c_Mo_right 10 = .ok (.ireturn, 1) := by decide +kernel
theorem d_Mo_start_0 : decode c_Mo_start 0 = .ok (.iload_n 0, 1) := by decide +kernel
theorem d_Mo_start_1 : decode c_Mo_start 1 = .ok (.tableswitch 64 0 6 #[43, 46, 49, 52, 55, 58, 61], 43) := by decide +kernel
theorem d_Mo_start_44 : decode c_Mo_start 44 = .ok (.ldc 130, 2) := by decide +kernel
theorem d_Mo_start_46 : decode c_Mo_start 46 = .ok (.ireturn, 1) := by decide +kernel
theorem d_Mo_start_47 : decode c_Mo_start 47 = .ok (.ldc 131, 2) := by decide +kernel
theorem d_Mo_start_49 : decode c_Mo_start 49 = .ok (.ireturn, 1) := by decide +kernel
theorem d_Mo_start_50 : decode c_Mo_start 50 = .ok (.ldc 132, 2) := by decide +kernel
theorem d_Mo_start_52 : decode c_Mo_start 52 = .ok (.ireturn, 1) := by decide +kernel
theorem d_Mo_start_53 : decode c_Mo_start 53 = .ok (.ldc 133, 2) := by decide +kernel
theorem d_Mo_start_55 : decode c_Mo_start 55 = .ok (.ireturn, 1) := by decide +kernel
theorem d_Mo_start_56 : decode c_Mo_start 56 = .ok (.ldc 134, 2) := by decide +kernel
theorem d_Mo_start_58 : decode c_Mo_start 58 = .ok (.ireturn, 1) := by decide +kernel
theorem d_Mo_start_59 : decode c_Mo_start 59 = .ok (.ldc 135, 2) := by decide +kernel
theorem d_Mo_start_61 : decode c_Mo_start 61 = .ok (.ireturn, 1) := by decide +kernel
theorem d_Mo_start_62 : decode c_Mo_start 62 = .ok (.ldc 136, 2) := by decide +kernel
theorem d_Mo_start_64 : decode c_Mo_start 64 = .ok (.ireturn, 1) := by decide +kernel
theorem d_Mo_start_65 : decode c_Mo_start 65 = .ok (.ldc 137, 2) := by decide +kernel
theorem d_Mo_start_67 : decode c_Mo_start 67 = .ok (.ireturn, 1) := by decide +kernel
theorem d_Mo_padded_0 : decode c_Mo_padded 0 = .ok (.iload_n 1, 1) := by decide +kernel
theorem d_Mo_padded_1 : decode c_Mo_padded 1 = .ok (.aload_n 0, 1) := by decide +kernel
theorem d_Mo_padded_2 : decode c_Mo_padded 2 = .ok (.getfield 138, 3) := by decide +kernel
theorem d_Mo_padded_5 : decode c_Mo_padded 5 = .ok (.if_icmp .ge 10, 3) := by decide +kernel
theorem d_Mo_padded_8 : decode c_Mo_padded 8 = .ok (.aload_n 0, 1) := by decide +kernel
theorem d_Mo_padded_9 : decode c_Mo_padded 9 = .ok (.getfield 33, 3) := by decide +kernel
theorem d_Mo_padded_12 : decode c_Mo_padded 12 = .ok (.iload_n 1, 1) := by decide +kernel
theorem d_Mo_padded_13 : decode c_Mo_padded 13 = .ok (.iaload, 1) := by decide +kernel
theorem d_Mo_padded_14 : decode c_Mo_padded 14 = .ok (.ireturn, 1) := by decide +kernel
theorem d_Mo_padded_15 : decode c_Mo_padded 15 = .ok (.iload_n 1, 1) := by decide +kernel
theorem d_Mo_padded_16 : decode c_Mo_padded 16 = .ok (.aload_n 0, 1) := by decide +kernel
theorem d_Mo_padded_17 : decode c_Mo_padded 17 = .ok (.getfield 138, 3) := by decide +kernel
theorem d_Mo_padded_20 : decode c_Mo_padded 20 = .ok (.if_icmp .ne 7, 3) := by decide +kernel
theorem d_Mo_padded_23 : decode c_Mo_padded 23 = .ok (.sipush 128, 3) := by decide +kernel
theorem d_Mo_padded_26 : decode c_Mo_padded 26 = .ok (.ireturn, 1) := by decide +kernel
theorem d_Mo_padded_27 : decode c_Mo_padded 27 = .ok (.iload_n 2, 1) := by decide +kernel
theorem d_Mo_padded_28 : decode c_Mo_padded 28 = .ok (.iload_n 1, 1) := by decide +kernel
theorem d_Mo_padded_29 : decode c_Mo_padded 29 = .ok (.isub, 1) := by decide +kernel
theorem d_Mo_padded_30 : decode c_Mo_padded 30 = .ok (.istore_n 3, 1) := by decide +kernel
theorem d_Mo_padded_31 : decode c_Mo_padded 31 = .ok (.iload_n 3, 1) := by decide +kernel
theorem d_Mo_padded_32 : decode c_Mo_padded 32 = .ok (.iconst 4, 1) := by decide +kernel
theorem d_Mo_padded_33 : decode c_Mo_padded 33 = .ok (.if_icmp .le 7, 3) := by decide +kernel
theorem d_Mo_padded_36 : decode c_Mo_padded 36 = .ok (.iconst 0, 1) := by decide +kernel
theorem d_Mo_padded_37 : decode c_Mo_padded 37 = .ok (.goto 21, 3) := by decide +kernel
theorem d_Mo_padded_40 : decode c_Mo_padded 40 = .ok (.bipush 8, 2) := by decide +kernel
theorem d_Mo_padded_42 : decode c_Mo_padded 42 = .ok (.aload_n 0, 1) := by decide +kernel
theorem d_Mo_padded_43 : decode c_Mo_padded 43 = .ok (.getfield 138, 3) := by decide +kernel
theorem d_Mo_padded_46 : decode c_Mo_padded 46 = .ok (.imul, 1) := by decide +kernel
theorem d_Mo_padded_47 : decode c_Mo_padded 47 = .ok (.bipush 8, 2) := by decide +kernel
theorem d_Mo_padded_49 : decode c_Mo_padded 49 = .ok (.iload_n 3, 1) := by decide +kernel
theorem d_Mo_padded_50 : decode c_Mo_padded 50 = .ok (.iconst 1, 1) := by decide +kernel
theorem d_Mo_padded_51 : decode c_Mo_padded 51 = .ok (.isub, 1) := by decide +kernel
theorem d_Mo_padded_52 : decode c_Mo_padded 52 = .ok (.imul, 1) := by decide +kernel
theorem d_Mo_padded_53 : decode c_Mo_padded 53 = .ok (.ishr, 1) := by decide +kernel
theorem d_Mo_padded_54 : decode c_Mo_padded 54 = .ok (.sipush 255, 3) := by decide +kernel
theorem d_Mo_padded_57 : decode c_Mo_padded 57 = .ok (.iand, 1) := by decide +kernel
theorem d_Mo_padded_58 : decode c_Mo_padded 58 = .ok (.ireturn, 1) := by decide +kernel
theorem d_Mo_round_0 : decode c_Mo_round 0 = .ok (.iconst 0, 1) := by decide +kernel
theorem d_Mo_round_1 : decode c_Mo_round 1 = .ok (.istore_n 3, 1) := by decide +kernel
theorem d_Mo_round_2 : decode c_Mo_round 2 = .ok (.iload_n 3, 1) := by decide +kernel
theorem d_Mo_round_3 : decode c_Mo_round 3 = .ok (.bipush 64, 2) := by decide +kernel
theorem d_Mo_round_5 : decode c_Mo_round 5 = .ok (.if_icmp .ge 166, 3) := by decide +kernel
theorem d_Mo_round_8 : decode c_Mo_round 8 = .ok (.iload_n 3, 1) := by decide +kernel
theorem d_Mo_round_9 : decode c_Mo_round 9 = .ok (.bipush 16, 2) := by decide +kernel
theorem d_Mo_round_11 : decode c_Mo_round 11 = .ok (.if_icmp .ge 65, 3) := by decide +kernel
theorem d_Mo_round_14 : decode c_Mo_round 14 = .ok (.iload_n 1, 1) := by decide +kernel
theorem d_Mo_round_15 : decode c_Mo_round 15 = .ok (.iconst 4, 1) := by decide +kernel
theorem d_Mo_round_16 : decode c_Mo_round 16 = .ok (.iload_n 3, 1) := by decide +kernel
theorem d_Mo_round_17 : decode c_Mo_round 17 = .ok (.imul, 1) := by decide +kernel
theorem d_Mo_round_18 : decode c_Mo_round 18 = .ok (.iadd, 1) := by decide +kernel
theorem d_Mo_round_19 : decode c_Mo_round 19 = .ok (.istore 4, 2) := by decide +kernel
theorem d_Mo_round_21 : decode c_Mo_round 21 = .ok (.aload_n 0, 1) := by decide +kernel
theorem d_Mo_round_22 : decode c_Mo_round 22 = .ok (.getfield 36, 3) := by decide +kernel
theorem d_Mo_round_25 : decode c_Mo_round 25 = .ok (.iload_n 3, 1) := by decide +kernel
theorem d_Mo_round_26 : decode c_Mo_round 26 = .ok (.aload_n 0, 1) := by decide +kernel
theorem d_Mo_round_27 : decode c_Mo_round 27 = .ok (.iload 4, 2) := by decide +kernel
theorem d_Mo_round_29 : decode c_Mo_round 29 = .ok (.iload_n 2, 1) := by decide +kernel
theorem d_Mo_round_30 : decode c_Mo_round 30 = .ok (.invokevirtual 141, 3) := by decide +kernel
theorem d_Mo_round_33 : decode c_Mo_round 33 = .ok (.bipush 24, 2) := by decide +kernel
theorem d_Mo_round_35 : decode c_Mo_round 35 = .ok (.ishl, 1) := by decide +kernel
theorem d_Mo_round_36 : decode c_Mo_round 36 = .ok (.aload_n 0, 1) := by decide +kernel
theorem d_Mo_round_37 : decode c_Mo_round 37 = .ok (.iload 4, 2) := by decide +kernel
theorem d_Mo_round_39 : decode c_Mo_round 39 = .ok (.iconst 1, 1) := by decide +kernel
theorem d_Mo_round_40 : decode c_Mo_round 40 = .ok (.iadd, 1) := by decide +kernel
theorem d_Mo_round_41 : decode c_Mo_round 41 = .ok (.iload_n 2, 1) := by decide +kernel
theorem d_Mo_round_42 : decode c_Mo_round 42 = .ok (.invokevirtual 141, 3) := by decide +kernel
theorem d_Mo_round_45 : decode c_Mo_round 45 = .ok (.bipush 16, 2) := by decide +kernel
theorem d_Mo_round_47 : decode c_Mo_round 47 = .ok (.ishl, 1) := by decide +kernel
theorem d_Mo_round_48 : decode c_Mo_round 48 = .ok (.ior, 1) := by decide +kernel
theorem d_Mo_round_49 : decode c_Mo_round 49 = .ok (.aload_n 0, 1) := by decide +kernel
theorem d_Mo_round_50 : decode c_Mo_round 50 = .ok (.iload 4, 2) := by decide +kernel
theorem d_Mo_round_52 : decode c_Mo_round 52 = .ok (.iconst 2, 1) := by decide +kernel
theorem d_Mo_round_53 : decode c_Mo_round 53 = .ok (.iadd, 1) := by decide +kernel
theorem d_Mo_round_54 : decode c_Mo_round 54 = .ok (.iload_n 2, 1) := by decide +kernel
theorem d_Mo_round_55 : decode c_Mo_round 55 = .ok (.invokevirtual 141, 3) := by decide +kernel
theorem d_Mo_round_58 : decode c_Mo_round 58 = .ok (.bipush 8, 2) := by decide +kernel
theorem d_Mo_round_60 : decode c_Mo_round 60 = .ok (.ishl, 1) := by decide +kernel
theorem d_Mo_round_61 : decode c_Mo_round 61 = .ok (.ior, 1) := by decide +kernel
theorem d_Mo_round_62 : decode c_Mo_round 62 = .ok (.aload_n 0, 1) := by decide +kernel
theorem d_Mo_round_63 : decode c_Mo_round 63 = .ok (.iload 4, 2) := by decide +kernel
theorem d_Mo_round_65 : decode c_Mo_round 65 = .ok (.iconst 3, 1) := by decide +kernel
theorem d_Mo_round_66 : decode c_Mo_round 66 = .ok (.iadd, 1) := by decide +kernel
theorem d_Mo_round_67 : decode c_Mo_round 67 = .ok (.iload_n 2, 1) := by decide +kernel
theorem d_Mo_round_68 : decode c_Mo_round 68 = .ok (.invokevirtual 141, 3) := by decide +kernel
theorem d_Mo_round_71 : decode c_Mo_round 71 = .ok (.ior, 1) := by decide +kernel
theorem d_Mo_round_72 : decode c_Mo_round 72 = .ok (.iastore, 1) := by decide +kernel
theorem d_Mo_round_73 : decode c_Mo_round 73 = .ok (.goto 92, 3) := by decide +kernel
theorem d_Mo_round_76 : decode c_Mo_round 76 = .ok (.aload_n 0, 1) := by decide +kernel
theorem d_Mo_round_77 : decode c_Mo_round 77 = .ok (.getfield 36, 3) := by decide +kernel
theorem d_Mo_round_80 : decode c_Mo_round 80 = .ok (.iload_n 3, 1) := by decide +kernel
theorem d_Mo_round_81 : decode c_Mo_round 81 = .ok (.bipush 15, 2) := by decide +kernel
theorem d_Mo_round_83 : decode c_Mo_round 83 = .ok (.isub, 1) := by decide +kernel
theorem d_Mo_round_84 : decode c_Mo_round 84 = .ok (.iaload, 1) := by decide +kernel
theorem d_Mo_round_85 : decode c_Mo_round 85 = .ok (.istore 4, 2) := by decide +kernel
theorem d_Mo_round_87 : decode c_Mo_round 87 = .ok (.aload_n 0, 1) := by decide +kernel
theorem d_Mo_round_88 : decode c_Mo_round 88 = .ok (.getfield 36, 3) := by decide +kernel
theorem d_Mo_round_91 : decode c_Mo_round 91 = .ok (.iload_n 3, 1) := by decide +kernel
theorem d_Mo_round_92 : decode c_Mo_round 92 = .ok (.iconst 2, 1) := by decide +kernel
theorem d_Mo_round_93 : decode c_Mo_round 93 = .ok (.isub, 1) := by decide +kernel
theorem d_Mo_round_94 : decode c_Mo_round 94 = .ok (.iaload, 1) := by decide +kernel
theorem d_Mo_round_95 : decode c_Mo_round 95 = .ok (.istore 5, 2) := by decide +kernel
theorem d_Mo_round_97 : decode c_Mo_round 97 = .ok (.aload_n 0, 1) := by decide +kernel
theorem d_Mo_round_98 : decode c_Mo_round 98 = .ok (.getfield 36, 3) := by decide +kernel
theorem d_Mo_round_101 : decode c_Mo_round 101 = .ok (.iload_n 3, 1) := by decide +kernel
theorem d_Mo_round_102 : decode c_Mo_round 102 = .ok (.aload_n 0, 1) := by decide +kernel
theorem d_Mo_round_103 : decode c_Mo_round 103 = .ok (.getfield 36, 3) := by decide +kernel
theorem d_Mo_round_106 : decode c_Mo_round 106 = .ok (.iload_n 3, 1) := by decide +kernel
theorem d_Mo_round_107 : decode c_Mo_round 107 = .ok (.bipush 16, 2) := by decide +kernel
theorem d_Mo_round_109 : decode c_Mo_round 109 = .ok (.isub, 1) := by decide +kernel
theorem d_Mo_round_110 : decode c_Mo_round 110 = .ok (.iaload, 1) := by decide +kernel
theorem d_Mo_round_111 : decode c_Mo_round 111 = .ok (.iload 4, 2) := by decide +kernel
theorem d_Mo_round_113 : decode c_Mo_round 113 = .ok (.bipush 7, 2) := by decide +kernel
theorem d_Mo_round_115 : decode c_Mo_round 115 = .ok (.invokestatic 145, 3) := by decide +kernel
theorem d_Mo_round_118 : decode c_Mo_round 118 = .ok (.iload 4, 2) := by decide +kernel
theorem d_Mo_round_120 : decode c_Mo_round 120 = .ok (.bipush 18, 2) := by decide +kernel
theorem d_Mo_round_122 : decode c_Mo_round 122 = .ok (.invokestatic 145, 3) := by decide +kernel
theorem d_Mo_round_125 : decode c_Mo_round 125 = .ok (.ixor, 1) := by decide +kernel
theorem d_Mo_round_126 : decode c_Mo_round 126 = .ok (.iload 4, 2) := by decide +kernel
theorem d_Mo_round_128 : decode c_Mo_round 128 = .ok (.iconst 3, 1) := by decide +kernel
theorem d_Mo_round_129 : decode c_Mo_round 129 = .ok (.iushr, 1) := by decide +kernel
theorem d_Mo_round_130 : decode c_Mo_round 130 = .ok (.ixor, 1) := by decide +kernel
theorem d_Mo_round_131 : decode c_Mo_round 131 = .ok (.iadd, 1) := by decide +kernel
theorem d_Mo_round_132 : decode c_Mo_round 132 = .ok (.aload_n 0, 1) := by decide +kernel
theorem d_Mo_round_133 : decode c_Mo_round 133 = .ok (.getfield 36, 3) := by decide +kernel
theorem d_Mo_round_136 : decode c_Mo_round 136 = .ok (.iload_n 3, 1) := by decide +kernel
theorem d_Mo_round_137 : decode c_Mo_round 137 = .ok (.bipush 7, 2) := by decide +kernel
theorem d_Mo_round_139 : decode c_Mo_round 139 = .ok (.isub, 1) := by decide +kernel
theorem d_Mo_round_140 : decode c_Mo_round 140 = .ok (.iaload, 1) := by decide +kernel
theorem d_Mo_round_141 : decode c_Mo_round 141 = .ok (.iadd, 1) := by decide +kernel
theorem d_Mo_round_142 : decode c_Mo_round 142 = .ok (.iload 5, 2) := by decide +kernel
theorem d_Mo_round_144 : decode c_Mo_round 144 = .ok (.bipush 17, 2) := by decide +kernel
theorem d_Mo_round_146 : decode c_Mo_round 146 = .ok (.invokestatic 145, 3) := by decide +kernel
theorem d_Mo_round_149 : decode c_Mo_round 149 = .ok (.iload 5, 2) := by decide +kernel
theorem d_Mo_round_151 : decode c_Mo_round 151 = .ok (.bipush 19, 2) := by decide +kernel
theorem d_Mo_round_153 : decode c_Mo_round 153 = .ok (.invokestatic 145, 3) := by decide +kernel
theorem d_Mo_round_156 : decode c_Mo_round 156 = .ok (.ixor, 1) := by decide +kernel
theorem d_Mo_round_157 : decode c_Mo_round 157 = .ok (.iload 5, 2) := by decide +kernel
theorem d_Mo_round_159 : decode c_Mo_round 159 = .ok (.bipush 10, 2) := by decide +kernel
theorem d_Mo_round_161 : decode c_Mo_round 161 = .ok (.iushr, 1) := by decide +kernel
theorem d_Mo_round_162 : decode c_Mo_round 162 = .ok (.ixor, 1) := by decide +kernel
theorem d_Mo_round_163 : decode c_Mo_round 163 = .ok (.iadd, 1) := by decide +kernel
theorem d_Mo_round_164 : decode c_Mo_round 164 = .ok (.iastore, 1) := by decide +kernel
theorem d_Mo_round_165 : decode c_Mo_round 165 = .ok (.iinc 3 1, 3) := by decide +kernel
theorem d_Mo_round_168 : decode c_Mo_round 168 = .ok (.goto (-166), 3) := by decide +kernel
theorem d_Mo_round_171 : decode c_Mo_round 171 = .ok (.aload_n 0, 1) := by decide +kernel
theorem d_Mo_round_172 : decode c_Mo_round 172 = .ok (.getfield 39, 3) := by decide +kernel
theorem d_Mo_round_175 : decode c_Mo_round 175 = .ok (.iconst 0, 1) := by decide +kernel
theorem d_Mo_round_176 : decode c_Mo_round 176 = .ok (.iaload, 1) := by decide +kernel
theorem d_Mo_round_177 : decode c_Mo_round 177 = .ok (.istore_n 3, 1) := by decide +kernel
theorem d_Mo_round_178 : decode c_Mo_round 178 = .ok (.aload_n 0, 1) := by decide +kernel
theorem d_Mo_round_179 : decode c_Mo_round 179 = .ok (.getfield 39, 3) := by decide +kernel
theorem d_Mo_round_182 : decode c_Mo_round 182 = .ok (.iconst 1, 1) := by decide +kernel
theorem d_Mo_round_183 : decode c_Mo_round 183 = .ok (.iaload, 1) := by decide +kernel
theorem d_Mo_round_184 : decode c_Mo_round 184 = .ok (.istore 4, 2) := by decide +kernel
theorem d_Mo_round_186 : decode c_Mo_round 186 = .ok (.aload_n 0, 1) := by decide +kernel
theorem d_Mo_round_187 : decode c_Mo_round 187 = .ok (.getfield 39, 3) := by decide +kernel
theorem d_Mo_round_190 : decode c_Mo_round 190 = .ok (.iconst 2, 1) := by decide +kernel
theorem d_Mo_round_191 : decode c_Mo_round 191 = .ok (.iaload, 1) := by decide +kernel
theorem d_Mo_round_192 : decode c_Mo_round 192 = .ok (.istore 5, 2) := by decide +kernel
theorem d_Mo_round_194 : decode c_Mo_round 194 = .ok (.aload_n 0, 1) := by decide +kernel
theorem d_Mo_round_195 : decode c_Mo_round 195 = .ok (.getfield 39, 3) := by decide +kernel
theorem d_Mo_round_198 : decode c_Mo_round 198 = .ok (.iconst 3, 1) := by decide +kernel
theorem d_Mo_round_199 : decode c_Mo_round 199 = .ok (.iaload, 1) := by decide +kernel
theorem d_Mo_round_200 : decode c_Mo_round 200 = .ok (.istore 6, 2) := by decide +kernel
theorem d_Mo_round_202 : decode c_Mo_round 202 = .ok (.aload_n 0, 1) := by decide +kernel
theorem d_Mo_round_203 : decode c_Mo_round 203 = .ok (.getfield 39, 3) := by decide +kernel
theorem d_Mo_round_206 : decode c_Mo_round 206 = .ok (.iconst 4, 1) := by decide +kernel
theorem d_Mo_round_207 : decode c_Mo_round 207 = .ok (.iaload, 1) := by decide +kernel
theorem d_Mo_round_208 : decode c_Mo_round 208 = .ok (.istore 7, 2) := by decide +kernel
theorem d_Mo_round_210 : decode c_Mo_round 210 = .ok (.aload_n 0, 1) := by decide +kernel
theorem d_Mo_round_211 : decode c_Mo_round 211 = .ok (.getfield 39, 3) := by decide +kernel
theorem d_Mo_round_214 : decode c_Mo_round 214 = .ok (.iconst 5, 1) := by decide +kernel
theorem d_Mo_round_215 : decode c_Mo_round 215 = .ok (.iaload, 1) := by decide +kernel
theorem d_Mo_round_216 : decode c_Mo_round 216 = .ok (.istore 8, 2) := by decide +kernel
theorem d_Mo_round_218 : decode c_Mo_round 218 = .ok (.aload_n 0, 1) := by decide +kernel
theorem d_Mo_round_219 : decode c_Mo_round 219 = .ok (.getfield 39, 3) := by decide +kernel
theorem d_Mo_round_222 : decode c_Mo_round 222 = .ok (.bipush 6, 2) := by decide +kernel
theorem d_Mo_round_224 : decode c_Mo_round 224 = .ok (.iaload, 1) := by decide +kernel
theorem d_Mo_round_225 : decode c_Mo_round 225 = .ok (.istore 9, 2) := by decide +kernel
theorem d_Mo_round_227 : decode c_Mo_round 227 = .ok (.aload_n 0, 1) := by decide +kernel
theorem d_Mo_round_228 : decode c_Mo_round 228 = .ok (.getfield 39, 3) := by decide +kernel
theorem d_Mo_round_231 : decode c_Mo_round 231 = .ok (.bipush 7, 2) := by decide +kernel
theorem d_Mo_round_233 : decode c_Mo_round 233 = .ok (.iaload, 1) := by decide +kernel
theorem d_Mo_round_234 : decode c_Mo_round 234 = .ok (.istore 10, 2) := by decide +kernel
theorem d_Mo_round_236 : decode c_Mo_round 236 = .ok (.iconst 0, 1) := by decide +kernel
theorem d_Mo_round_237 : decode c_Mo_round 237 = .ok (.istore 11, 2) := by decide +kernel
theorem d_Mo_round_239 : decode c_Mo_round 239 = .ok (.iload 11, 2) := by decide +kernel
theorem d_Mo_round_241 : decode c_Mo_round 241 = .ok (.bipush 64, 2) := by decide +kernel
theorem d_Mo_round_243 : decode c_Mo_round 243 = .ok (.if_icmp .ge 138, 3) := by decide +kernel
theorem d_Mo_round_246 : decode c_Mo_round 246 = .ok (.iload 10, 2) := by decide +kernel
theorem d_Mo_round_248 : decode c_Mo_round 248 = .ok (.iload 7, 2) := by decide +kernel
theorem d_Mo_round_250 : decode c_Mo_round 250 = .ok (.bipush 6, 2) := by decide +kernel
theorem d_Mo_round_252 : decode c_Mo_round 252 = .ok (.invokestatic 145, 3) := by decide +kernel
theorem d_Mo_round_255 : decode c_Mo_round 255 = .ok (.iload 7, 2) := by decide +kernel
theorem d_Mo_round_257 : decode c_Mo_round 257 = .ok (.bipush 11, 2) := by decide +kernel
theorem d_Mo_round_259 : decode c_Mo_round 259 = .ok (.invokestatic 145, 3) := by decide +kernel
theorem d_Mo_round_262 : decode c_Mo_round 262 = .ok (.ixor, 1) := by decide +kernel
theorem d_Mo_round_263 : decode c_Mo_round 263 = .ok (.iload 7, 2) := by decide +kernel
theorem d_Mo_round_265 : decode c_Mo_round 265 = .ok (.bipush 25, 2) := by decide +kernel
theorem d_Mo_round_267 : decode c_Mo_round 267 = .ok (.invokestatic 145, 3) := by decide +kernel
theorem d_Mo_round_270 : decode c_Mo_round 270 = .ok (.ixor, 1) := by decide +kernel
theorem d_Mo_round_271 : decode c_Mo_round 271 = .ok (.iadd, 1) := by decide +kernel
theorem d_Mo_round_272 : decode c_Mo_round 272 = .ok (.iload 7, 2) := by decide +kernel
theorem d_Mo_round_274 : decode c_Mo_round 274 = .ok (.iload 8, 2) := by decide +kernel
theorem d_Mo_round_276 : decode c_Mo_round 276 = .ok (.iand, 1) := by decide +kernel
theorem d_Mo_round_277 : decode c_Mo_round 277 = .ok (.iload 7, 2) := by decide +kernel
theorem d_Mo_round_279 : decode c_Mo_round 279 = .ok (.iconst (-1), 1) := by decide +kernel
theorem d_Mo_round_280 : decode c_Mo_round 280 = .ok (.ixor, 1) := by decide +kernel
theorem d_Mo_round_281 : decode c_Mo_round 281 = .ok (.iload 9, 2) := by decide +kernel
theorem d_Mo_round_283 : decode c_Mo_round 283 = .ok (.iand, 1) := by decide +kernel
theorem d_Mo_round_284 : decode c_Mo_round 284 = .ok (.ixor, 1) := by decide +kernel
theorem d_Mo_round_285 : decode c_Mo_round 285 = .ok (.iadd, 1) := by decide +kernel
theorem d_Mo_round_286 : decode c_Mo_round 286 = .ok (.iload 11, 2) := by decide +kernel
theorem d_Mo_round_288 : decode c_Mo_round 288 = .ok (.invokestatic 148, 3) := by decide +kernel
theorem d_Mo_round_291 : decode c_Mo_round 291 = .ok (.iadd, 1) := by decide +kernel
theorem d_Mo_round_292 : decode c_Mo_round 292 = .ok (.aload_n 0, 1) := by decide +kernel
theorem d_Mo_round_293 : decode c_Mo_round 293 = .ok (.getfield 36, 3) := by decide +kernel
theorem d_Mo_round_296 : decode c_Mo_round 296 = .ok (.iload 11, 2) := by decide +kernel
theorem d_Mo_round_298 : decode c_Mo_round 298 = .ok (.iaload, 1) := by decide +kernel
theorem d_Mo_round_299 : decode c_Mo_round 299 = .ok (.iadd, 1) := by decide +kernel
theorem d_Mo_round_300 : decode c_Mo_round 300 = .ok (.istore 12, 2) := by decide +kernel
theorem d_Mo_round_302 : decode c_Mo_round 302 = .ok (.iload_n 3, 1) := by decide +kernel
theorem d_Mo_round_303 : decode c_Mo_round 303 = .ok (.iconst 2, 1) := by decide +kernel
theorem d_Mo_round_304 : decode c_Mo_round 304 = .ok (.invokestatic 145, 3) := by decide +kernel
theorem d_Mo_round_307 : decode c_Mo_round 307 = .ok (.iload_n 3, 1) := by decide +kernel
theorem d_Mo_round_308 : decode c_Mo_round 308 = .ok (.bipush 13, 2) := by decide +kernel
theorem d_Mo_round_310 : decode c_Mo_round 310 = .ok (.invokestatic 145, 3) := by decide +kernel
theorem d_Mo_round_313 : decode c_Mo_round 313 = .ok (.ixor, 1) := by decide +kernel
theorem d_Mo_round_314 : decode c_Mo_round 314 = .ok (.iload_n 3, 1) := by decide +kernel
theorem d_Mo_round_315 : decode c_Mo_round 315 = .ok (.bipush 22, 2) := by decide +kernel
theorem d_Mo_round_317 : decode c_Mo_round 317 = .ok (.invokestatic 145, 3) := by decide +kernel
theorem d_Mo_round_320 : decode c_Mo_round 320 = .ok (.ixor, 1) := by decide +kernel
theorem d_Mo_round_321 : decode c_Mo_round 321 = .ok (.iload_n 3, 1) := by decide +kernel
theorem d_Mo_round_322 : decode c_Mo_round 322 = .ok (.iload 4, 2) := by decide +kernel
theorem d_Mo_round_324 : decode c_Mo_round 324 = .ok (.iand, 1) := by decide +kernel
theorem d_Mo_round_325 : decode c_Mo_round 325 = .ok (.iload_n 3, 1) := by decide +kernel
theorem d_Mo_round_326 : decode c_Mo_round 326 = .ok (.iload 5, 2) := by decide +kernel
theorem d_Mo_round_328 : decode c_Mo_round 328 = .ok (.iand, 1) := by decide +kernel
theorem d_Mo_round_329 : decode c_Mo_round 329 = .ok (.ixor, 1) := by decide +kernel
theorem d_Mo_round_330 : decode c_Mo_round 330 = .ok (.iload 4, 2) := by decide +kernel
theorem d_Mo_round_332 : decode c_Mo_round 332 = .ok (.iload 5, 2) := by decide +kernel
theorem d_Mo_round_334 : decode c_Mo_round 334 = .ok (.iand, 1) := by decide +kernel
theorem d_Mo_round_335 : decode c_Mo_round 335 = .ok (.ixor, 1) := by decide +kernel
theorem d_Mo_round_336 : decode c_Mo_round 336 = .ok (.iadd, 1) := by decide +kernel
theorem d_Mo_round_337 : decode c_Mo_round 337 = .ok (.istore 13, 2) := by decide +kernel
theorem d_Mo_round_339 : decode c_Mo_round 339 = .ok (.iload 9, 2) := by decide +kernel
theorem d_Mo_round_341 : decode c_Mo_round 341 = .ok (.istore 10, 2) := by decide +kernel
theorem d_Mo_round_343 : decode c_Mo_round 343 = .ok (.iload 8, 2) := by decide +kernel
theorem d_Mo_round_345 : decode c_Mo_round 345 = .ok (.istore 9, 2) := by decide +kernel
theorem d_Mo_round_347 : decode c_Mo_round 347 = .ok (.iload 7, 2) := by decide +kernel
theorem d_Mo_round_349 : decode c_Mo_round 349 = .ok (.istore 8, 2) := by decide +kernel
theorem d_Mo_round_351 : decode c_Mo_round 351 = .ok (.iload 6, 2) := by decide +kernel
theorem d_Mo_round_353 : decode c_Mo_round 353 = .ok (.iload 12, 2) := by decide +kernel
theorem d_Mo_round_355 : decode c_Mo_round 355 = .ok (.iadd, 1) := by decide +kernel
theorem d_Mo_round_356 : decode c_Mo_round 356 = .ok (.istore 7, 2) := by decide +kernel
theorem d_Mo_round_358 : decode c_Mo_round 358 = .ok (.iload 5, 2) := by decide +kernel
theorem d_Mo_round_360 : decode c_Mo_round 360 = .ok (.istore 6, 2) := by decide +kernel
theorem d_Mo_round_362 : decode c_Mo_round 362 = .ok (.iload 4, 2) := by decide +kernel
theorem d_Mo_round_364 : decode c_Mo_round 364 = .ok (.istore 5, 2) := by decide +kernel
theorem d_Mo_round_366 : decode c_Mo_round 366 = .ok (.iload_n 3, 1) := by decide +kernel
theorem d_Mo_round_367 : decode c_Mo_round 367 = .ok (.istore 4, 2) := by decide +kernel
theorem d_Mo_round_369 : decode c_Mo_round 369 = .ok (.iload 12, 2) := by decide +kernel
theorem d_Mo_round_371 : decode c_Mo_round 371 = .ok (.iload 13, 2) := by decide +kernel
theorem d_Mo_round_373 : decode c_Mo_round 373 = .ok (.iadd, 1) := by decide +kernel
theorem d_Mo_round_374 : decode c_Mo_round 374 = .ok (.istore_n 3, 1) := by decide +kernel
theorem d_Mo_round_375 : decode c_Mo_round 375 = .ok (.iinc 11 1, 3) := by decide +kernel
theorem d_Mo_round_378 : decode c_Mo_round 378 = .ok (.goto (-139), 3) := by decide +kernel
theorem d_Mo_round_381 : decode c_Mo_round 381 = .ok (.aload_n 0, 1) := by decide +kernel
theorem d_Mo_round_382 : decode c_Mo_round 382 = .ok (.getfield 39, 3) := by decide +kernel
theorem d_Mo_round_385 : decode c_Mo_round 385 = .ok (.iconst 0, 1) := by decide +kernel
theorem d_Mo_round_386 : decode c_Mo_round 386 = .ok (.dup2, 1) := by decide +kernel
theorem d_Mo_round_387 : decode c_Mo_round 387 = .ok (.iaload, 1) := by decide +kernel
theorem d_Mo_round_388 : decode c_Mo_round 388 = .ok (.iload_n 3, 1) := by decide +kernel
theorem d_Mo_round_389 : decode c_Mo_round 389 = .ok (.iadd, 1) := by decide +kernel
theorem d_Mo_round_390 : decode c_Mo_round 390 = .ok (.iastore, 1) := by decide +kernel
theorem d_Mo_round_391 : decode c_Mo_round 391 = .ok (.aload_n 0, 1) := by decide +kernel
theorem d_Mo_round_392 : decode c_Mo_round 392 = .ok (.getfield 39, 3) := by decide +kernel
theorem d_Mo_round_395 : decode c_Mo_round 395 = .ok (.iconst 1, 1) := by decide +kernel
theorem d_Mo_round_396 : decode c_Mo_round 396 = .ok (.dup2, 1) := by decide +kernel
theorem d_Mo_round_397 : decode c_Mo_round 397 = .ok (.iaload, 1) := by decide +kernel
theorem d_Mo_round_398 : decode c_Mo_round 398 = .ok (.iload 4, 2) := by decide +kernel
theorem d_Mo_round_400 : decode c_Mo_round 400 = .ok (.iadd, 1) := by decide +kernel
theorem d_Mo_round_401 : decode c_Mo_round 401 = .ok (.iastore, 1) := by decide +kernel
theorem d_Mo_round_402 : decode c_Mo_round 402 = .ok (.aload_n 0, 1) := by decide +kernel
theorem d_Mo_round_403 : decode c_Mo_round 403 = .ok (.getfield 39, 3) := by decide +kernel
theorem d_Mo_round_406 : decode c_Mo_round 406 = .ok (.iconst 2, 1) := by decide +kernel
theorem d_Mo_round_407 : decode c_Mo_round 407 = .ok (.dup2, 1) := by decide +kernel
theorem d_Mo_round_408 : decode c_Mo_round 408 = .ok (.iaload, 1) := by decide +kernel
theorem d_Mo_round_409 : decode c_Mo_round 409 = .ok (.iload 5, 2) := by decide +kernel
theorem d_Mo_round_411 : decode c_Mo_round 411 = .ok (.iadd, 1) := by decide +kernel
theorem d_Mo_round_412 : decode c_Mo_round 412 = .ok (.iastore, 1) := by decide +kernel
theorem d_Mo_round_413 : decode c_Mo_round 413 = .ok (.aload_n 0, 1) := by decide +kernel
theorem d_Mo_round_414 : decode c_Mo_round 414 = .ok (.getfield 39, 3) := by decide +kernel
theorem d_Mo_round_417 : decode c_Mo_round 417 = .ok (.iconst 3, 1) := by decide +kernel
theorem d_Mo_round_418 : decode c_Mo_round 418 = .ok (.dup2, 1) := by decide +kernel
theorem d_Mo_round_419 : decode c_Mo_round 419 = .ok (.iaload, 1) := by decide +kernel
theorem d_Mo_round_420 : decode c_Mo_round 420 = .ok (.iload 6, 2) := by decide +kernel
theorem d_Mo_round_422 : decode c_Mo_round 422 = .ok (.iadd, 1) := by decide +kernel
theorem d_Mo_round_423 : decode c_Mo_round 423 = .ok (.iastore, 1) := by decide +kernel
theorem d_Mo_round_424 : decode c_Mo_round 424 = .ok (.aload_n 0, 1) := by decide +kernel
theorem d_Mo_round_425 : decode c_Mo_round 425 = .ok (.getfield 39, 3) := by decide +kernel
theorem d_Mo_round_428 : decode c_Mo_round 428 = .ok (.iconst 4, 1) := by decide +kernel
theorem d_Mo_round_429 : decode c_Mo_round 429 = .ok (.dup2, 1) := by decide +kernel
theorem d_Mo_round_430 : decode c_Mo_round 430 = .ok (.iaload, 1) := by decide +kernel
theorem d_Mo_round_431 : decode c_Mo_round 431 = .ok (.iload 7, 2) := by decide +kernel
theorem d_Mo_round_433 : decode c_Mo_round 433 = .ok (.iadd, 1) := by decide +kernel
theorem d_Mo_round_434 : decode c_Mo_round 434 = .ok (.iastore, 1) := by decide +kernel
theorem d_Mo_round_435 : decode c_Mo_round 435 = .ok (.aload_n 0, 1) := by decide +kernel
theorem d_Mo_round_436 : decode c_Mo_round 436 = .ok (.getfield 39, 3) := by decide +kernel
theorem d_Mo_round_439 : decode c_Mo_round 439 = .ok (.iconst 5, 1) := by decide +kernel
theorem d_Mo_round_440 : decode c_Mo_round 440 = .ok (.dup2, 1) := by decide +kernel
theorem d_Mo_round_441 : decode c_Mo_round 441 = .ok (.iaload, 1) := by decide +kernel
theorem d_Mo_round_442 : decode c_Mo_round 442 = .ok (.iload 8, 2) := by decide +kernel
theorem d_Mo_round_444 : decode c_Mo_round 444 = .ok (.iadd, 1) := by decide +kernel
theorem d_Mo_round_445 : decode c_Mo_round 445 = .ok (.iastore, 1) := by decide +kernel
theorem d_Mo_round_446 : decode c_Mo_round 446 = .ok (.aload_n 0, 1) := by decide +kernel
theorem d_Mo_round_447 : decode c_Mo_round 447 = .ok (.getfield 39, 3) := by decide +kernel
theorem d_Mo_round_450 : decode c_Mo_round 450 = .ok (.bipush 6, 2) := by decide +kernel
theorem d_Mo_round_452 : decode c_Mo_round 452 = .ok (.dup2, 1) := by decide +kernel
theorem d_Mo_round_453 : decode c_Mo_round 453 = .ok (.iaload, 1) := by decide +kernel
theorem d_Mo_round_454 : decode c_Mo_round 454 = .ok (.iload 9, 2) := by decide +kernel
theorem d_Mo_round_456 : decode c_Mo_round 456 = .ok (.iadd, 1) := by decide +kernel
theorem d_Mo_round_457 : decode c_Mo_round 457 = .ok (.iastore, 1) := by decide +kernel
theorem d_Mo_round_458 : decode c_Mo_round 458 = .ok (.aload_n 0, 1) := by decide +kernel
theorem d_Mo_round_459 : decode c_Mo_round 459 = .ok (.getfield 39, 3) := by decide +kernel
theorem d_Mo_round_462 : decode c_Mo_round 462 = .ok (.bipush 7, 2) := by decide +kernel
theorem d_Mo_round_464 : decode c_Mo_round 464 = .ok (.dup2, 1) := by decide +kernel
theorem d_Mo_round_465 : decode c_Mo_round 465 = .ok (.iaload, 1) := by decide +kernel
theorem d_Mo_round_466 : decode c_Mo_round 466 = .ok (.iload 10, 2) := by decide +kernel
theorem d_Mo_round_468 : decode c_Mo_round 468 = .ok (.iadd, 1) := by decide +kernel
theorem d_Mo_round_469 : decode c_Mo_round 469 = .ok (.iastore, 1) := by decide +kernel
theorem d_Mo_round_470 : decode c_Mo_round 470 = .ok (.return_, 1) := by decide +kernel
theorem d_Mo_digests_0 : decode c_Mo_digests 0 = .ok (.iconst 0, 1) := by decide +kernel
theorem d_Mo_digests_1 : decode c_Mo_digests 1 = .ok (.istore_n 1, 1) := by decide +kernel
theorem d_Mo_digests_2 : decode c_Mo_digests 2 = .ok (.iload_n 1, 1) := by decide +kernel
theorem d_Mo_digests_3 : decode c_Mo_digests 3 = .ok (.bipush 8, 2) := by decide +kernel
theorem d_Mo_digests_5 : decode c_Mo_digests 5 = .ok (.if_icmp .ge 19, 3) := by decide +kernel
theorem d_Mo_digests_8 : decode c_Mo_digests 8 = .ok (.aload_n 0, 1) := by decide +kernel
theorem d_Mo_digests_9 : decode c_Mo_digests 9 = .ok (.getfield 39, 3) := by decide +kernel
theorem d_Mo_digests_12 : decode c_Mo_digests 12 = .ok (.iload_n 1, 1) := by decide +kernel
theorem d_Mo_digests_13 : decode c_Mo_digests 13 = .ok (.iload_n 1, 1) := by decide +kernel
theorem d_Mo_digests_14 : decode c_Mo_digests 14 = .ok (.invokestatic 152, 3) := by decide +kernel
theorem d_Mo_digests_17 : decode c_Mo_digests 17 = .ok (.iastore, 1) := by decide +kernel
theorem d_Mo_digests_18 : decode c_Mo_digests 18 = .ok (.iinc 1 1, 3) := by decide +kernel
theorem d_Mo_digests_21 : decode c_Mo_digests 21 = .ok (.goto (-19), 3) := by decide +kernel
theorem d_Mo_digests_24 : decode c_Mo_digests 24 = .ok (.aload_n 0, 1) := by decide +kernel
theorem d_Mo_digests_25 : decode c_Mo_digests 25 = .ok (.getfield 138, 3) := by decide +kernel
theorem d_Mo_digests_28 : decode c_Mo_digests 28 = .ok (.bipush 9, 2) := by decide +kernel
theorem d_Mo_digests_30 : decode c_Mo_digests 30 = .ok (.iadd, 1) := by decide +kernel
theorem d_Mo_digests_31 : decode c_Mo_digests 31 = .ok (.bipush 63, 2) := by decide +kernel
theorem d_Mo_digests_33 : decode c_Mo_digests 33 = .ok (.iadd, 1) := by decide +kernel
theorem d_Mo_digests_34 : decode c_Mo_digests 34 = .ok (.bipush 64, 2) := by decide +kernel
theorem d_Mo_digests_36 : decode c_Mo_digests 36 = .ok (.idiv, 1) := by decide +kernel
theorem d_Mo_digests_37 : decode c_Mo_digests 37 = .ok (.bipush 64, 2) := by decide +kernel
theorem d_Mo_digests_39 : decode c_Mo_digests 39 = .ok (.imul, 1) := by decide +kernel
theorem d_Mo_digests_40 : decode c_Mo_digests 40 = .ok (.istore_n 1, 1) := by decide +kernel
theorem d_Mo_digests_41 : decode c_Mo_digests 41 = .ok (.iconst 0, 1) := by decide +kernel
theorem d_Mo_digests_42 : decode c_Mo_digests 42 = .ok (.istore_n 2, 1) := by decide +kernel
theorem d_Mo_digests_43 : decode c_Mo_digests 43 = .ok (.iload_n 2, 1) := by decide +kernel
theorem d_Mo_digests_44 : decode c_Mo_digests 44 = .ok (.iload_n 1, 1) := by decide +kernel
theorem d_Mo_digests_45 : decode c_Mo_digests 45 = .ok (.if_icmp .ge 15, 3) := by decide +kernel
theorem d_Mo_digests_48 : decode c_Mo_digests 48 = .ok (.aload_n 0, 1) := by decide +kernel
theorem d_Mo_digests_49 : decode c_Mo_digests 49 = .ok (.iload_n 2, 1) := by decide +kernel
theorem d_Mo_digests_50 : decode c_Mo_digests 50 = .ok (.iload_n 1, 1) := by decide +kernel
theorem d_Mo_digests_51 : decode c_Mo_digests 51 = .ok (.invokevirtual 155, 3) := by decide +kernel
theorem d_Mo_digests_54 : decode c_Mo_digests 54 = .ok (.iinc 2 64, 3) := by decide +kernel
theorem d_Mo_digests_57 : decode c_Mo_digests 57 = .ok (.goto (-14), 3) := by decide +kernel
theorem d_Mo_digests_60 : decode c_Mo_digests 60 = .ok (.iconst 0, 1) := by decide +kernel
theorem d_Mo_digests_61 : decode c_Mo_digests 61 = .ok (.istore_n 2, 1) := by decide +kernel
theorem d_Mo_digests_62 : decode c_Mo_digests 62 = .ok (.iload_n 2, 1) := by decide +kernel
theorem d_Mo_digests_63 : decode c_Mo_digests 63 = .ok (.bipush 32, 2) := by decide +kernel
theorem d_Mo_digests_65 : decode c_Mo_digests 65 = .ok (.if_icmp .ge 37, 3) := by decide +kernel
theorem d_Mo_digests_68 : decode c_Mo_digests 68 = .ok (.aload_n 0, 1) := by decide +kernel
theorem d_Mo_digests_69 : decode c_Mo_digests 69 = .ok (.getfield 42, 3) := by decide +kernel
theorem d_Mo_digests_72 : decode c_Mo_digests 72 = .ok (.iload_n 2, 1) := by decide +kernel
theorem d_Mo_digests_73 : decode c_Mo_digests 73 = .ok (.aload_n 0, 1) := by decide +kernel
theorem d_Mo_digests_74 : decode c_Mo_digests 74 = .ok (.getfield 39, 3) := by decide +kernel
theorem d_Mo_digests_77 : decode c_Mo_digests 77 = .ok (.iload_n 2, 1) := by decide +kernel
theorem d_Mo_digests_78 : decode c_Mo_digests 78 = .ok (.iconst 4, 1) := by decide +kernel
theorem d_Mo_digests_79 : decode c_Mo_digests 79 = .ok (.idiv, 1) := by decide +kernel
theorem d_Mo_digests_80 : decode c_Mo_digests 80 = .ok (.iaload, 1) := by decide +kernel
theorem d_Mo_digests_81 : decode c_Mo_digests 81 = .ok (.bipush 24, 2) := by decide +kernel
theorem d_Mo_digests_83 : decode c_Mo_digests 83 = .ok (.bipush 8, 2) := by decide +kernel
theorem d_Mo_digests_85 : decode c_Mo_digests 85 = .ok (.iload_n 2, 1) := by decide +kernel
theorem d_Mo_digests_86 : decode c_Mo_digests 86 = .ok (.iconst 4, 1) := by decide +kernel
theorem d_Mo_digests_87 : decode c_Mo_digests 87 = .ok (.irem, 1) := by decide +kernel
theorem d_Mo_digests_88 : decode c_Mo_digests 88 = .ok (.imul, 1) := by decide +kernel
theorem d_Mo_digests_89 : decode c_Mo_digests 89 = .ok (.isub, 1) := by decide +kernel
theorem d_Mo_digests_90 : decode c_Mo_digests 90 = .ok (.iushr, 1) := by decide +kernel
theorem d_Mo_digests_91 : decode c_Mo_digests 91 = .ok (.sipush 255, 3) := by decide +kernel
theorem d_Mo_digests_94 : decode c_Mo_digests 94 = .ok (.iand, 1) := by decide +kernel
theorem d_Mo_digests_95 : decode c_Mo_digests 95 = .ok (.iastore, 1) := by decide +kernel
theorem d_Mo_digests_96 : decode c_Mo_digests 96 = .ok (.iinc 2 1, 3) := by decide +kernel
theorem d_Mo_digests_99 : decode c_Mo_digests 99 = .ok (.goto (-37), 3) := by decide +kernel
theorem d_Mo_digests_102 : decode c_Mo_digests 102 = .ok (.return_, 1) := by decide +kernel
theorem d_Mo_twice_0 : decode c_Mo_twice 0 = .ok (.aload_n 0, 1) := by decide +kernel
theorem d_Mo_twice_1 : decode c_Mo_twice 1 = .ok (.invokevirtual 159, 3) := by decide +kernel
theorem d_Mo_twice_4 : decode c_Mo_twice 4 = .ok (.aload_n 0, 1) := by decide +kernel
theorem d_Mo_twice_5 : decode c_Mo_twice 5 = .ok (.bipush 32, 2) := by decide +kernel
theorem d_Mo_twice_7 : decode c_Mo_twice 7 = .ok (.putfield 138, 3) := by decide +kernel
theorem d_Mo_twice_10 : decode c_Mo_twice 10 = .ok (.iconst 0, 1) := by decide +kernel
theorem d_Mo_twice_11 : decode c_Mo_twice 11 = .ok (.istore_n 1, 1) := by decide +kernel
theorem d_Mo_twice_12 : decode c_Mo_twice 12 = .ok (.iload_n 1, 1) := by decide +kernel
theorem d_Mo_twice_13 : decode c_Mo_twice 13 = .ok (.bipush 32, 2) := by decide +kernel
theorem d_Mo_twice_15 : decode c_Mo_twice 15 = .ok (.if_icmp .ge 21, 3) := by decide +kernel
theorem d_Mo_twice_18 : decode c_Mo_twice 18 = .ok (.aload_n 0, 1) := by decide +kernel
theorem d_Mo_twice_19 : decode c_Mo_twice 19 = .ok (.getfield 33, 3) := by decide +kernel
theorem d_Mo_twice_22 : decode c_Mo_twice 22 = .ok (.iload_n 1, 1) := by decide +kernel
theorem d_Mo_twice_23 : decode c_Mo_twice 23 = .ok (.aload_n 0, 1) := by decide +kernel
theorem d_Mo_twice_24 : decode c_Mo_twice 24 = .ok (.getfield 42, 3) := by decide +kernel
theorem d_Mo_twice_27 : decode c_Mo_twice 27 = .ok (.iload_n 1, 1) := by decide +kernel
theorem d_Mo_twice_28 : decode c_Mo_twice 28 = .ok (.iaload, 1) := by decide +kernel
theorem d_Mo_twice_29 : decode c_Mo_twice 29 = .ok (.iastore, 1) := by decide +kernel
theorem d_Mo_twice_30 : decode c_Mo_twice 30 = .ok (.iinc 1 1, 3) := by decide +kernel
theorem d_Mo_twice_33 : decode c_Mo_twice 33 = .ok (.goto (-21), 3) := by decide +kernel
theorem d_Mo_twice_36 : decode c_Mo_twice 36 = .ok (.aload_n 0, 1) := by decide +kernel
theorem d_Mo_twice_37 : decode c_Mo_twice 37 = .ok (.invokevirtual 159, 3) := by decide +kernel
theorem d_Mo_twice_40 : decode c_Mo_twice 40 = .ok (.return_, 1) := by decide +kernel
theorem d_Mo_ofPool_0 : decode c_Mo_ofPool 0 = .ok (.aload_n 0, 1) := by decide +kernel
theorem d_Mo_ofPool_1 : decode c_Mo_ofPool 1 = .ok (.aload_n 0, 1) := by decide +kernel
theorem d_Mo_ofPool_2 : decode c_Mo_ofPool 2 = .ok (.getfield 20, 3) := by decide +kernel
theorem d_Mo_ofPool_5 : decode c_Mo_ofPool 5 = .ok (.iload_n 1, 1) := by decide +kernel
theorem d_Mo_ofPool_6 : decode c_Mo_ofPool 6 = .ok (.iaload, 1) := by decide +kernel
theorem d_Mo_ofPool_7 : decode c_Mo_ofPool 7 = .ok (.putfield 138, 3) := by decide +kernel
theorem d_Mo_ofPool_10 : decode c_Mo_ofPool 10 = .ok (.iconst 0, 1) := by decide +kernel
theorem d_Mo_ofPool_11 : decode c_Mo_ofPool 11 = .ok (.istore_n 2, 1) := by decide +kernel
theorem d_Mo_ofPool_12 : decode c_Mo_ofPool 12 = .ok (.iload_n 2, 1) := by decide +kernel
theorem d_Mo_ofPool_13 : decode c_Mo_ofPool 13 = .ok (.aload_n 0, 1) := by decide +kernel
theorem d_Mo_ofPool_14 : decode c_Mo_ofPool 14 = .ok (.getfield 138, 3) := by decide +kernel
theorem d_Mo_ofPool_17 : decode c_Mo_ofPool 17 = .ok (.if_icmp .ge 27, 3) := by decide +kernel
theorem d_Mo_ofPool_20 : decode c_Mo_ofPool 20 = .ok (.aload_n 0, 1) := by decide +kernel
theorem d_Mo_ofPool_21 : decode c_Mo_ofPool 21 = .ok (.getfield 33, 3) := by decide +kernel
theorem d_Mo_ofPool_24 : decode c_Mo_ofPool 24 = .ok (.iload_n 2, 1) := by decide +kernel
theorem d_Mo_ofPool_25 : decode c_Mo_ofPool 25 = .ok (.aload_n 0, 1) := by decide +kernel
theorem d_Mo_ofPool_26 : decode c_Mo_ofPool 26 = .ok (.getfield 24, 3) := by decide +kernel
theorem d_Mo_ofPool_29 : decode c_Mo_ofPool 29 = .ok (.sipush 1600, 3) := by decide +kernel
theorem d_Mo_ofPool_32 : decode c_Mo_ofPool 32 = .ok (.iload_n 1, 1) := by decide +kernel
theorem d_Mo_ofPool_33 : decode c_Mo_ofPool 33 = .ok (.imul, 1) := by decide +kernel
theorem d_Mo_ofPool_34 : decode c_Mo_ofPool 34 = .ok (.iload_n 2, 1) := by decide +kernel
theorem d_Mo_ofPool_35 : decode c_Mo_ofPool 35 = .ok (.iadd, 1) := by decide +kernel
theorem d_Mo_ofPool_36 : decode c_Mo_ofPool 36 = .ok (.iaload, 1) := by decide +kernel
theorem d_Mo_ofPool_37 : decode c_Mo_ofPool 37 = .ok (.iastore, 1) := by decide +kernel
theorem d_Mo_ofPool_38 : decode c_Mo_ofPool 38 = .ok (.iinc 2 1, 3) := by decide +kernel
theorem d_Mo_ofPool_41 : decode c_Mo_ofPool 41 = .ok (.goto (-29), 3) := by decide +kernel
theorem d_Mo_ofPool_44 : decode c_Mo_ofPool 44 = .ok (.aload_n 0, 1) := by decide +kernel
theorem d_Mo_ofPool_45 : decode c_Mo_ofPool 45 = .ok (.invokevirtual 162, 3) := by decide +kernel
theorem d_Mo_ofPool_48 : decode c_Mo_ofPool 48 = .ok (.return_, 1) := by decide +kernel
theorem d_Mo_times_0 : decode c_Mo_times 0 = .ok (.iconst 0, 1) := by decide +kernel
theorem d_Mo_times_1 : decode c_Mo_times 1 = .ok (.istore_n 2, 1) := by decide +kernel
theorem d_Mo_times_2 : decode c_Mo_times 2 = .ok (.iload_n 0, 1) := by decide +kernel
theorem d_Mo_times_3 : decode c_Mo_times 3 = .ok (.istore_n 3, 1) := by decide +kernel
theorem d_Mo_times_4 : decode c_Mo_times 4 = .ok (.iload_n 1, 1) := by decide +kernel
theorem d_Mo_times_5 : decode c_Mo_times 5 = .ok (.istore 4, 2) := by decide +kernel
theorem d_Mo_times_7 : decode c_Mo_times 7 = .ok (.iload 4, 2) := by decide +kernel
theorem d_Mo_times_9 : decode c_Mo_times 9 = .ok (.ifCond .le 48, 3) := by decide +kernel
theorem d_Mo_times_12 : decode c_Mo_times 12 = .ok (.iload_n 2, 1) := by decide +kernel
theorem d_Mo_times_13 : decode c_Mo_times 13 = .ok (.iload 4, 2) := by decide +kernel
theorem d_Mo_times_15 : decode c_Mo_times 15 = .ok (.iconst 1, 1) := by decide +kernel
theorem d_Mo_times_16 : decode c_Mo_times 16 = .ok (.iand, 1) := by decide +kernel
theorem d_Mo_times_17 : decode c_Mo_times 17 = .ok (.iconst 1, 1) := by decide +kernel
theorem d_Mo_times_18 : decode c_Mo_times 18 = .ok (.if_icmp .ne 7, 3) := by decide +kernel
theorem d_Mo_times_21 : decode c_Mo_times 21 = .ok (.iload_n 3, 1) := by decide +kernel
theorem d_Mo_times_22 : decode c_Mo_times 22 = .ok (.goto 4, 3) := by decide +kernel
theorem d_Mo_times_25 : decode c_Mo_times 25 = .ok (.iconst 0, 1) := by decide +kernel
theorem d_Mo_times_26 : decode c_Mo_times 26 = .ok (.ixor, 1) := by decide +kernel
theorem d_Mo_times_27 : decode c_Mo_times 27 = .ok (.istore_n 2, 1) := by decide +kernel
theorem d_Mo_times_28 : decode c_Mo_times 28 = .ok (.iload_n 3, 1) := by decide +kernel
theorem d_Mo_times_29 : decode c_Mo_times 29 = .ok (.bipush 127, 2) := by decide +kernel
theorem d_Mo_times_31 : decode c_Mo_times 31 = .ok (.if_icmp .le 13, 3) := by decide +kernel
theorem d_Mo_times_34 : decode c_Mo_times 34 = .ok (.iconst 2, 1) := by decide +kernel
theorem d_Mo_times_35 : decode c_Mo_times 35 = .ok (.iload_n 3, 1) := by decide +kernel
theorem d_Mo_times_36 : decode c_Mo_times 36 = .ok (.imul, 1) := by decide +kernel
theorem d_Mo_times_37 : decode c_Mo_times 37 = .ok (.sipush 283, 3) := by decide +kernel
theorem d_Mo_times_40 : decode c_Mo_times 40 = .ok (.ixor, 1) := by decide +kernel
theorem d_Mo_times_41 : decode c_Mo_times 41 = .ok (.goto 6, 3) := by decide +kernel
theorem d_Mo_times_44 : decode c_Mo_times 44 = .ok (.iconst 2, 1) := by decide +kernel
theorem d_Mo_times_45 : decode c_Mo_times 45 = .ok (.iload_n 3, 1) := by decide +kernel
theorem d_Mo_times_46 : decode c_Mo_times 46 = .ok (.imul, 1) := by decide +kernel
theorem d_Mo_times_47 : decode c_Mo_times 47 = .ok (.istore_n 3, 1) := by decide +kernel
theorem d_Mo_times_48 : decode c_Mo_times 48 = .ok (.iload 4, 2) := by decide +kernel
theorem d_Mo_times_50 : decode c_Mo_times 50 = .ok (.iconst 1, 1) := by decide +kernel
theorem d_Mo_times_51 : decode c_Mo_times 51 = .ok (.ishr, 1) := by decide +kernel
theorem d_Mo_times_52 : decode c_Mo_times 52 = .ok (.istore 4, 2) := by decide +kernel
theorem d_Mo_times_54 : decode c_Mo_times 54 = .ok (.goto (-47), 3) := by decide +kernel
theorem d_Mo_times_57 : decode c_Mo_times 57 = .ok (.iload_n 2, 1) := by decide +kernel
theorem d_Mo_times_58 : decode c_Mo_times 58 = .ok (.ireturn, 1) := by decide +kernel
theorem d_Mo_turned_0 : decode c_Mo_turned 0 = .ok (.iconst 1, 1) := by decide +kernel
theorem d_Mo_turned_1 : decode c_Mo_turned 1 = .ok (.istore_n 1, 1) := by decide +kernel
theorem d_Mo_turned_2 : decode c_Mo_turned 2 = .ok (.iconst 0, 1) := by decide +kernel
theorem d_Mo_turned_3 : decode c_Mo_turned 3 = .ok (.istore_n 2, 1) := by decide +kernel
theorem d_Mo_turned_4 : decode c_Mo_turned 4 = .ok (.iload_n 2, 1) := by decide +kernel
theorem d_Mo_turned_5 : decode c_Mo_turned 5 = .ok (.sipush 254, 3) := by decide +kernel
theorem d_Mo_turned_8 : decode c_Mo_turned 8 = .ok (.if_icmp .ge 15, 3) := by decide +kernel
theorem d_Mo_turned_11 : decode c_Mo_turned 11 = .ok (.iload_n 1, 1) := by decide +kernel
theorem d_Mo_turned_12 : decode c_Mo_turned 12 = .ok (.iload_n 0, 1) := by decide +kernel
theorem d_Mo_turned_13 : decode c_Mo_turned 13 = .ok (.invokestatic 165, 3) := by decide +kernel
theorem d_Mo_turned_16 : decode c_Mo_turned 16 = .ok (.istore_n 1, 1) := by decide +kernel
theorem d_Mo_turned_17 : decode c_Mo_turned 17 = .ok (.iinc 2 1, 3) := by decide +kernel
theorem d_Mo_turned_20 : decode c_Mo_turned 20 = .ok (.goto (-16), 3) := by decide +kernel
theorem d_Mo_turned_23 : decode c_Mo_turned 23 = .ok (.iconst 0, 1) := by decide +kernel
theorem d_Mo_turned_24 : decode c_Mo_turned 24 = .ok (.istore_n 2, 1) := by decide +kernel
theorem d_Mo_turned_25 : decode c_Mo_turned 25 = .ok (.iconst 0, 1) := by decide +kernel
theorem d_Mo_turned_26 : decode c_Mo_turned 26 = .ok (.istore_n 3, 1) := by decide +kernel
theorem d_Mo_turned_27 : decode c_Mo_turned 27 = .ok (.iload_n 3, 1) := by decide +kernel
theorem d_Mo_turned_28 : decode c_Mo_turned 28 = .ok (.bipush 8, 2) := by decide +kernel
theorem d_Mo_turned_30 : decode c_Mo_turned 30 = .ok (.if_icmp .ge 66, 3) := by decide +kernel
theorem d_Mo_turned_33 : decode c_Mo_turned 33 = .ok (.iload_n 1, 1) := by decide +kernel
theorem d_Mo_turned_34 : decode c_Mo_turned 34 = .ok (.iload_n 3, 1) := by decide +kernel
theorem d_Mo_turned_35 : decode c_Mo_turned 35 = .ok (.ishr, 1) := by decide +kernel
theorem d_Mo_turned_36 : decode c_Mo_turned 36 = .ok (.iload_n 1, 1) := by decide +kernel
theorem d_Mo_turned_37 : decode c_Mo_turned 37 = .ok (.iload_n 3, 1) := by decide +kernel
theorem d_Mo_turned_38 : decode c_Mo_turned 38 = .ok (.iconst 4, 1) := by decide +kernel
theorem d_Mo_turned_39 : decode c_Mo_turned 39 = .ok (.iadd, 1) := by decide +kernel
theorem d_Mo_turned_40 : decode c_Mo_turned 40 = .ok (.bipush 8, 2) := by decide +kernel
theorem d_Mo_turned_42 : decode c_Mo_turned 42 = .ok (.irem, 1) := by decide +kernel
theorem d_Mo_turned_43 : decode c_Mo_turned 43 = .ok (.ishr, 1) := by decide +kernel
theorem d_Mo_turned_44 : decode c_Mo_turned 44 = .ok (.ixor, 1) := by decide +kernel
theorem d_Mo_turned_45 : decode c_Mo_turned 45 = .ok (.iload_n 1, 1) := by decide +kernel
theorem d_Mo_turned_46 : decode c_Mo_turned 46 = .ok (.iload_n 3, 1) := by decide +kernel
theorem d_Mo_turned_47 : decode c_Mo_turned 47 = .ok (.iconst 5, 1) := by decide +kernel
theorem d_Mo_turned_48 : decode c_Mo_turned 48 = .ok (.iadd, 1) := by decide +kernel
theorem d_Mo_turned_49 : decode c_Mo_turned 49 = .ok (.bipush 8, 2) := by decide +kernel
theorem d_Mo_turned_51 : decode c_Mo_turned 51 = .ok (.irem, 1) := by decide +kernel
theorem d_Mo_turned_52 : decode c_Mo_turned 52 = .ok (.ishr, 1) := by decide +kernel
theorem d_Mo_turned_53 : decode c_Mo_turned 53 = .ok (.ixor, 1) := by decide +kernel
theorem d_Mo_turned_54 : decode c_Mo_turned 54 = .ok (.iload_n 1, 1) := by decide +kernel
theorem d_Mo_turned_55 : decode c_Mo_turned 55 = .ok (.iload_n 3, 1) := by decide +kernel
theorem d_Mo_turned_56 : decode c_Mo_turned 56 = .ok (.bipush 6, 2) := by decide +kernel
theorem d_Mo_turned_58 : decode c_Mo_turned 58 = .ok (.iadd, 1) := by decide +kernel
theorem d_Mo_turned_59 : decode c_Mo_turned 59 = .ok (.bipush 8, 2) := by decide +kernel
theorem d_Mo_turned_61 : decode c_Mo_turned 61 = .ok (.irem, 1) := by decide +kernel
theorem d_Mo_turned_62 : decode c_Mo_turned 62 = .ok (.ishr, 1) := by decide +kernel
theorem d_Mo_turned_63 : decode c_Mo_turned 63 = .ok (.ixor, 1) := by decide +kernel
theorem d_Mo_turned_64 : decode c_Mo_turned 64 = .ok (.iload_n 1, 1) := by decide +kernel
theorem d_Mo_turned_65 : decode c_Mo_turned 65 = .ok (.iload_n 3, 1) := by decide +kernel
theorem d_Mo_turned_66 : decode c_Mo_turned 66 = .ok (.bipush 7, 2) := by decide +kernel
theorem d_Mo_turned_68 : decode c_Mo_turned 68 = .ok (.iadd, 1) := by decide +kernel
theorem d_Mo_turned_69 : decode c_Mo_turned 69 = .ok (.bipush 8, 2) := by decide +kernel
theorem d_Mo_turned_71 : decode c_Mo_turned 71 = .ok (.irem, 1) := by decide +kernel
theorem d_Mo_turned_72 : decode c_Mo_turned 72 = .ok (.ishr, 1) := by decide +kernel
theorem d_Mo_turned_73 : decode c_Mo_turned 73 = .ok (.ixor, 1) := by decide +kernel
theorem d_Mo_turned_74 : decode c_Mo_turned 74 = .ok (.bipush 99, 2) := by decide +kernel
theorem d_Mo_turned_76 : decode c_Mo_turned 76 = .ok (.iload_n 3, 1) := by decide +kernel
theorem d_Mo_turned_77 : decode c_Mo_turned 77 = .ok (.ishr, 1) := by decide +kernel
theorem d_Mo_turned_78 : decode c_Mo_turned 78 = .ok (.ixor, 1) := by decide +kernel
theorem d_Mo_turned_79 : decode c_Mo_turned 79 = .ok (.istore 4, 2) := by decide +kernel
theorem d_Mo_turned_81 : decode c_Mo_turned 81 = .ok (.iload_n 2, 1) := by decide +kernel
theorem d_Mo_turned_82 : decode c_Mo_turned 82 = .ok (.iload 4, 2) := by decide +kernel
theorem d_Mo_turned_84 : decode c_Mo_turned 84 = .ok (.iconst 1, 1) := by decide +kernel
theorem d_Mo_turned_85 : decode c_Mo_turned 85 = .ok (.iand, 1) := by decide +kernel
theorem d_Mo_turned_86 : decode c_Mo_turned 86 = .ok (.iload_n 3, 1) := by decide +kernel
theorem d_Mo_turned_87 : decode c_Mo_turned 87 = .ok (.ishl, 1) := by decide +kernel
theorem d_Mo_turned_88 : decode c_Mo_turned 88 = .ok (.iadd, 1) := by decide +kernel
theorem d_Mo_turned_89 : decode c_Mo_turned 89 = .ok (.istore_n 2, 1) := by decide +kernel
theorem d_Mo_turned_90 : decode c_Mo_turned 90 = .ok (.iinc 3 1, 3) := by decide +kernel
theorem d_Mo_turned_93 : decode c_Mo_turned 93 = .ok (.goto (-66), 3) := by decide +kernel
theorem d_Mo_turned_96 : decode c_Mo_turned 96 = .ok (.iload_n 2, 1) := by decide +kernel
theorem d_Mo_turned_97 : decode c_Mo_turned 97 = .ok (.ireturn, 1) := by decide +kernel
theorem d_Mo_s_0 : decode c_Mo_s 0 = .ok (.iconst 0, 1) := by decide +kernel
theorem d_Mo_s_1 : decode c_Mo_s 1 = .ok (.istore_n 2, 1) := by decide +kernel
theorem d_Mo_s_2 : decode c_Mo_s 2 = .ok (.iload_n 2, 1) := by decide +kernel
theorem d_Mo_s_3 : decode c_Mo_s 3 = .ok (.sipush 256, 3) := by decide +kernel
theorem d_Mo_s_6 : decode c_Mo_s 6 = .ok (.if_icmp .ge 26, 3) := by decide +kernel
theorem d_Mo_s_9 : decode c_Mo_s 9 = .ok (.aload_n 0, 1) := by decide +kernel
theorem d_Mo_s_10 : decode c_Mo_s 10 = .ok (.getfield 168, 3) := by decide +kernel
theorem d_Mo_s_13 : decode c_Mo_s 13 = .ok (.ifCond .ne 19, 3) := by decide +kernel
theorem d_Mo_s_16 : decode c_Mo_s 16 = .ok (.aload_n 0, 1) := by decide +kernel
theorem d_Mo_s_17 : decode c_Mo_s 17 = .ok (.getfield 60, 3) := by decide +kernel
theorem d_Mo_s_20 : decode c_Mo_s 20 = .ok (.iload_n 2, 1) := by decide +kernel
theorem d_Mo_s_21 : decode c_Mo_s 21 = .ok (.iload_n 2, 1) := by decide +kernel
theorem d_Mo_s_22 : decode c_Mo_s 22 = .ok (.invokestatic 172, 3) := by decide +kernel
theorem d_Mo_s_25 : decode c_Mo_s 25 = .ok (.iastore, 1) := by decide +kernel
theorem d_Mo_s_26 : decode c_Mo_s 26 = .ok (.iinc 2 1, 3) := by decide +kernel
theorem d_Mo_s_29 : decode c_Mo_s 29 = .ok (.goto (-27), 3) := by decide +kernel
theorem d_Mo_s_32 : decode c_Mo_s 32 = .ok (.aload_n 0, 1) := by decide +kernel
theorem d_Mo_s_33 : decode c_Mo_s 33 = .ok (.iconst 1, 1) := by decide +kernel
theorem d_Mo_s_34 : decode c_Mo_s 34 = .ok (.putfield 168, 3) := by decide +kernel
theorem d_Mo_s_37 : decode c_Mo_s 37 = .ok (.aload_n 0, 1) := by decide +kernel
theorem d_Mo_s_38 : decode c_Mo_s 38 = .ok (.getfield 60, 3) := by decide +kernel
theorem d_Mo_s_41 : decode c_Mo_s 41 = .ok (.iload_n 1, 1) := by decide +kernel
theorem d_Mo_s_42 : decode c_Mo_s 42 = .ok (.iaload, 1) := by decide +kernel
theorem d_Mo_s_43 : decode c_Mo_s 43 = .ok (.ireturn, 1) := by decide +kernel
theorem d_Mo_schedules_0 : decode c_Mo_schedules 0 = .ok (.iconst 1, 1) := by decide +kernel
theorem d_Mo_schedules_1 : decode c_Mo_schedules 1 = .ok (.istore_n 1, 1) := by decide +kernel
theorem d_Mo_schedules_2 : decode c_Mo_schedules 2 = .ok (.iconst 0, 1) := by decide +kernel
theorem d_Mo_schedules_3 : decode c_Mo_schedules 3 = .ok (.istore_n 2, 1) := by decide +kernel
theorem d_Mo_schedules_4 : decode c_Mo_schedules 4 = .ok (.iload_n 2, 1) := by decide +kernel
theorem d_Mo_schedules_5 : decode c_Mo_schedules 5 = .ok (.sipush 176, 3) := by decide +kernel
theorem d_Mo_schedules_8 : decode c_Mo_schedules 8 = .ok (.if_icmp .ge 123, 3) := by decide +kernel
theorem d_Mo_schedules_11 : decode c_Mo_schedules 11 = .ok (.iload_n 2, 1) := by decide +kernel
theorem d_Mo_schedules_12 : decode c_Mo_schedules 12 = .ok (.bipush 16, 2) := by decide +kernel
theorem d_Mo_schedules_14 : decode c_Mo_schedules 14 = .ok (.if_icmp .ge 18, 3) := by decide +kernel
theorem d_Mo_schedules_17 : decode c_Mo_schedules 17 = .ok (.aload_n 0, 1) := by decide +kernel
theorem d_Mo_schedules_18 : decode c_Mo_schedules 18 = .ok (.getfield 57, 3) := by decide +kernel
theorem d_Mo_schedules_21 : decode c_Mo_schedules 21 = .ok (.iload_n 2, 1) := by decide +kernel
theorem d_Mo_schedules_22 : decode c_Mo_schedules 22 = .ok (.aload_n 0, 1) := by decide +kernel
theorem d_Mo_schedules_23 : decode c_Mo_schedules 23 = .ok (.getfield 7, 3) := by decide +kernel
theorem d_Mo_schedules_26 : decode c_Mo_schedules 26 = .ok (.iload_n 2, 1) := by decide +kernel
theorem d_Mo_schedules_27 : decode c_Mo_schedules 27 = .ok (.iaload, 1) := by decide +kernel
theorem d_Mo_schedules_28 : decode c_Mo_schedules 28 = .ok (.iastore, 1) := by decide +kernel
theorem d_Mo_schedules_29 : decode c_Mo_schedules 29 = .ok (.goto 96, 3) := by decide +kernel
theorem d_Mo_schedules_32 : decode c_Mo_schedules 32 = .ok (.iload_n 2, 1) := by decide +kernel
theorem d_Mo_schedules_33 : decode c_Mo_schedules 33 = .ok (.iconst 4, 1) := by decide +kernel
theorem d_Mo_schedules_34 : decode c_Mo_schedules 34 = .ok (.idiv, 1) := by decide +kernel
theorem d_Mo_schedules_35 : decode c_Mo_schedules 35 = .ok (.istore_n 3, 1) := by decide +kernel
theorem d_Mo_schedules_36 : decode c_Mo_schedules 36 = .ok (.iload_n 2, 1) := by decide +kernel
theorem d_Mo_schedules_37 : decode c_Mo_schedules 37 = .ok (.iconst 4, 1) := by decide +kernel
theorem d_Mo_schedules_38 : decode c_Mo_schedules 38 = .ok (.irem, 1) := by decide +kernel
theorem d_Mo_schedules_39 : decode c_Mo_schedules 39 = .ok (.istore 4, 2) := by decide +kernel
theorem d_Mo_schedules_41 : decode c_Mo_schedules 41 = .ok (.aload_n 0, 1) := by decide +kernel
theorem d_Mo_schedules_42 : decode c_Mo_schedules 42 = .ok (.getfield 57, 3) := by decide +kernel
theorem d_Mo_schedules_45 : decode c_Mo_schedules 45 = .ok (.iload_n 2, 1) := by decide +kernel
theorem d_Mo_schedules_46 : decode c_Mo_schedules 46 = .ok (.iconst 4, 1) := by decide +kernel
theorem d_Mo_schedules_47 : decode c_Mo_schedules 47 = .ok (.isub, 1) := by decide +kernel
theorem d_Mo_schedules_48 : decode c_Mo_schedules 48 = .ok (.iaload, 1) := by decide +kernel
theorem d_Mo_schedules_49 : decode c_Mo_schedules 49 = .ok (.istore 5, 2) := by decide +kernel
theorem d_Mo_schedules_51 : decode c_Mo_schedules 51 = .ok (.iload_n 3, 1) := by decide +kernel
theorem d_Mo_schedules_52 : decode c_Mo_schedules 52 = .ok (.iconst 4, 1) := by decide +kernel
theorem d_Mo_schedules_53 : decode c_Mo_schedules 53 = .ok (.irem, 1) := by decide +kernel
theorem d_Mo_schedules_54 : decode c_Mo_schedules 54 = .ok (.ifCond .ne 53, 3) := by decide +kernel
theorem d_Mo_schedules_57 : decode c_Mo_schedules 57 = .ok (.aload_n 0, 1) := by decide +kernel
theorem d_Mo_schedules_58 : decode c_Mo_schedules 58 = .ok (.aload_n 0, 1) := by decide +kernel
theorem d_Mo_schedules_59 : decode c_Mo_schedules 59 = .ok (.getfield 57, 3) := by decide +kernel
theorem d_Mo_schedules_62 : decode c_Mo_schedules 62 = .ok (.iconst 4, 1) := by decide +kernel
theorem d_Mo_schedules_63 : decode c_Mo_schedules 63 = .ok (.iload_n 3, 1) := by decide +kernel
theorem d_Mo_schedules_64 : decode c_Mo_schedules 64 = .ok (.imul, 1) := by decide +kernel
theorem d_Mo_schedules_65 : decode c_Mo_schedules 65 = .ok (.iconst 4, 1) := by decide +kernel
theorem d_Mo_schedules_66 : decode c_Mo_schedules 66 = .ok (.isub, 1) := by decide +kernel
theorem d_Mo_schedules_67 : decode c_Mo_schedules 67 = .ok (.iload 4, 2) := by decide +kernel
theorem d_Mo_schedules_69 : decode c_Mo_schedules 69 = .ok (.iconst 1, 1) := by decide +kernel
theorem d_Mo_schedules_70 : decode c_Mo_schedules 70 = .ok (.iadd, 1) := by decide +kernel
theorem d_Mo_schedules_71 : decode c_Mo_schedules 71 = .ok (.iconst 4, 1) := by decide +kernel
theorem d_Mo_schedules_72 : decode c_Mo_schedules 72 = .ok (.irem, 1) := by decide +kernel
theorem d_Mo_schedules_73 : decode c_Mo_schedules 73 = .ok (.iadd, 1) := by decide +kernel
theorem d_Mo_schedules_74 : decode c_Mo_schedules 74 = .ok (.iaload, 1) := by decide +kernel
theorem d_Mo_schedules_75 : decode c_Mo_schedules 75 = .ok (.invokevirtual 175, 3) := by decide +kernel
theorem d_Mo_schedules_78 : decode c_Mo_schedules 78 = .ok (.iload 4, 2) := by decide +kernel
theorem d_Mo_schedules_80 : decode c_Mo_schedules 80 = .ok (.ifCond .ne 7, 3) := by decide +kernel
theorem d_Mo_schedules_83 : decode c_Mo_schedules 83 = .ok (.iload_n 1, 1) := by decide +kernel
theorem d_Mo_schedules_84 : decode c_Mo_schedules 84 = .ok (.goto 4, 3) := by decide +kernel
theorem d_Mo_schedules_87 : decode c_Mo_schedules 87 = .ok (.iconst 0, 1) := by decide +kernel
theorem d_Mo_schedules_88 : decode c_Mo_schedules 88 = .ok (.ixor, 1) := by decide +kernel
theorem d_Mo_schedules_89 : decode c_Mo_schedules 89 = .ok (.istore 5, 2) := by decide +kernel
theorem d_Mo_schedules_91 : decode c_Mo_schedules 91 = .ok (.iload 4, 2) := by decide +kernel
theorem d_Mo_schedules_93 : decode c_Mo_schedules 93 = .ok (.iconst 3, 1) := by decide +kernel
theorem d_Mo_schedules_94 : decode c_Mo_schedules 94 = .ok (.if_icmp .ne 11, 3) := by decide +kernel
theorem d_Mo_schedules_97 : decode c_Mo_schedules 97 = .ok (.iload_n 1, 1) := by decide +kernel
theorem d_Mo_schedules_98 : decode c_Mo_schedules 98 = .ok (.iconst 2, 1) := by decide +kernel
theorem d_Mo_schedules_99 : decode c_Mo_schedules 99 = .ok (.invokestatic 165, 3) := by decide +kernel
theorem d_Mo_schedules_102 : decode c_Mo_schedules 102 = .ok (.goto 4, 3) := by decide +kernel
theorem d_Mo_schedules_105 : decode c_Mo_schedules 105 = .ok (.iload_n 1, 1) := by decide +kernel
theorem d_Mo_schedules_106 : decode c_Mo_schedules 106 = .ok (.istore_n 1, 1) := by decide +kernel
theorem d_Mo_schedules_107 : decode c_Mo_schedules 107 = .ok (.aload_n 0, 1) := by decide +kernel
theorem d_Mo_schedules_108 : decode c_Mo_schedules 108 = .ok (.getfield 57, 3) := by decide +kernel
theorem d_Mo_schedules_111 : decode c_Mo_schedules 111 = .ok (.iload_n 2, 1) := by decide +kernel
theorem d_Mo_schedules_112 : decode c_Mo_schedules 112 = .ok (.aload_n 0, 1) := by decide +kernel
theorem d_Mo_schedules_113 : decode c_Mo_schedules 113 = .ok (.getfield 57, 3) := by decide +kernel
theorem d_Mo_schedules_116 : decode c_Mo_schedules 116 = .ok (.iload_n 2, 1) := by decide +kernel
theorem d_Mo_schedules_117 : decode c_Mo_schedules 117 = .ok (.bipush 16, 2) := by decide +kernel
theorem d_Mo_schedules_119 : decode c_Mo_schedules 119 = .ok (.isub, 1) := by decide +kernel
theorem d_Mo_schedules_120 : decode c_Mo_schedules 120 = .ok (.iaload, 1) := by decide +kernel
theorem d_Mo_schedules_121 : decode c_Mo_schedules 121 = .ok (.iload 5, 2) := by decide +kernel
theorem d_Mo_schedules_123 : decode c_Mo_schedules 123 = .ok (.ixor, 1) := by decide +kernel
theorem d_Mo_schedules_124 : decode c_Mo_schedules 124 = .ok (.iastore, 1) := by decide +kernel
theorem d_Mo_schedules_125 : decode c_Mo_schedules 125 = .ok (.iinc 2 1, 3) := by decide +kernel
theorem d_Mo_schedules_128 : decode c_Mo_schedules 128 = .ok (.goto (-124), 3) := by decide +kernel
theorem d_Mo_schedules_131 : decode c_Mo_schedules 131 = .ok (.return_, 1) := by decide +kernel
theorem d_Mo_generates_0 : decode c_Mo_generates 0 = .ok (.aload_n 0, 1) := by decide +kernel
theorem d_Mo_generates_1 : decode c_Mo_generates 1 = .ok (.invokevirtual 178, 3) := by decide +kernel
theorem d_Mo_generates_4 : decode c_Mo_generates 4 = .ok (.iconst 0, 1) := by decide +kernel
theorem d_Mo_generates_5 : decode c_Mo_generates 5 = .ok (.istore_n 2, 1) := by decide +kernel
theorem d_Mo_generates_6 : decode c_Mo_generates 6 = .ok (.iload_n 2, 1) := by decide +kernel
theorem d_Mo_generates_7 : decode c_Mo_generates 7 = .ok (.bipush 16, 2) := by decide +kernel
theorem d_Mo_generates_9 : decode c_Mo_generates 9 = .ok (.if_icmp .ge 28, 3) := by decide +kernel
theorem d_Mo_generates_12 : decode c_Mo_generates 12 = .ok (.aload_n 0, 1) := by decide +kernel
theorem d_Mo_generates_13 : decode c_Mo_generates 13 = .ok (.getfield 51, 3) := by decide +kernel
theorem d_Mo_generates_16 : decode c_Mo_generates 16 = .ok (.iload_n 2, 1) := by decide +kernel
theorem d_Mo_generates_17 : decode c_Mo_generates 17 = .ok (.aload_n 0, 1) := by decide +kernel
theorem d_Mo_generates_18 : decode c_Mo_generates 18 = .ok (.getfield 13, 3) := by decide +kernel
theorem d_Mo_generates_21 : decode c_Mo_generates 21 = .ok (.iload_n 2, 1) := by decide +kernel
theorem d_Mo_generates_22 : decode c_Mo_generates 22 = .ok (.iaload, 1) := by decide +kernel
theorem d_Mo_generates_23 : decode c_Mo_generates 23 = .ok (.aload_n 0, 1) := by decide +kernel
theorem d_Mo_generates_24 : decode c_Mo_generates 24 = .ok (.getfield 57, 3) := by decide +kernel
theorem d_Mo_generates_27 : decode c_Mo_generates 27 = .ok (.iload_n 2, 1) := by decide +kernel
theorem d_Mo_generates_28 : decode c_Mo_generates 28 = .ok (.iaload, 1) := by decide +kernel
theorem d_Mo_generates_29 : decode c_Mo_generates 29 = .ok (.ixor, 1) := by decide +kernel
theorem d_Mo_generates_30 : decode c_Mo_generates 30 = .ok (.iastore, 1) := by decide +kernel
theorem d_Mo_generates_31 : decode c_Mo_generates 31 = .ok (.iinc 2 1, 3) := by decide +kernel
theorem d_Mo_generates_34 : decode c_Mo_generates 34 = .ok (.goto (-28), 3) := by decide +kernel
theorem d_Mo_generates_37 : decode c_Mo_generates 37 = .ok (.iconst 1, 1) := by decide +kernel
theorem d_Mo_generates_38 : decode c_Mo_generates 38 = .ok (.istore_n 2, 1) := by decide +kernel
theorem d_Mo_generates_39 : decode c_Mo_generates 39 = .ok (.iload_n 2, 1) := by decide +kernel
theorem d_Mo_generates_40 : decode c_Mo_generates 40 = .ok (.bipush 11, 2) := by decide +kernel
theorem d_Mo_generates_42 : decode c_Mo_generates 42 = .ok (.if_icmp .ge 194, 3) := by decide +kernel
theorem d_Mo_generates_45 : decode c_Mo_generates 45 = .ok (.iconst 0, 1) := by decide +kernel
theorem d_Mo_generates_46 : decode c_Mo_generates 46 = .ok (.istore_n 3, 1) := by decide +kernel
theorem d_Mo_generates_47 : decode c_Mo_generates 47 = .ok (.iload_n 3, 1) := by decide +kernel
theorem d_Mo_generates_48 : decode c_Mo_generates 48 = .ok (.iconst 4, 1) := by decide +kernel
theorem d_Mo_generates_49 : decode c_Mo_generates 49 = .ok (.if_icmp .ge 55, 3) := by decide +kernel
theorem d_Mo_generates_52 : decode c_Mo_generates 52 = .ok (.iconst 0, 1) := by decide +kernel
theorem d_Mo_generates_53 : decode c_Mo_generates 53 = .ok (.istore 4, 2) := by decide +kernel
theorem d_Mo_generates_55 : decode c_Mo_generates 55 = .ok (.iload 4, 2) := by decide +kernel
theorem d_Mo_generates_57 : decode c_Mo_generates 57 = .ok (.iconst 4, 1) := by decide +kernel
theorem d_Mo_generates_58 : decode c_Mo_generates 58 = .ok (.if_icmp .ge 40, 3) := by decide +kernel
theorem d_Mo_generates_61 : decode c_Mo_generates 61 = .ok (.aload_n 0, 1) := by decide +kernel
theorem d_Mo_generates_62 : decode c_Mo_generates 62 = .ok (.getfield 54, 3) := by decide +kernel
theorem d_Mo_generates_65 : decode c_Mo_generates 65 = .ok (.iconst 4, 1) := by decide +kernel
theorem d_Mo_generates_66 : decode c_Mo_generates 66 = .ok (.iload_n 3, 1) := by decide +kernel
theorem d_Mo_generates_67 : decode c_Mo_generates 67 = .ok (.imul, 1) := by decide +kernel
theorem d_Mo_generates_68 : decode c_Mo_generates 68 = .ok (.iload 4, 2) := by decide +kernel
theorem d_Mo_generates_70 : decode c_Mo_generates 70 = .ok (.iadd, 1) := by decide +kernel
theorem d_Mo_generates_71 : decode c_Mo_generates 71 = .ok (.aload_n 0, 1) := by decide +kernel
theorem d_Mo_generates_72 : decode c_Mo_generates 72 = .ok (.aload_n 0, 1) := by decide +kernel
theorem d_Mo_generates_73 : decode c_Mo_generates 73 = .ok (.getfield 51, 3) := by decide +kernel
theorem d_Mo_generates_76 : decode c_Mo_generates 76 = .ok (.iconst 4, 1) := by decide +kernel
theorem d_Mo_generates_77 : decode c_Mo_generates 77 = .ok (.iload_n 3, 1) := by decide +kernel
theorem d_Mo_generates_78 : decode c_Mo_generates 78 = .ok (.iload 4, 2) := by decide +kernel
theorem d_Mo_generates_80 : decode c_Mo_generates 80 = .ok (.iadd, 1) := by decide +kernel
theorem d_Mo_generates_81 : decode c_Mo_generates 81 = .ok (.iconst 4, 1) := by decide +kernel
theorem d_Mo_generates_82 : decode c_Mo_generates 82 = .ok (.irem, 1) := by decide +kernel
theorem d_Mo_generates_83 : decode c_Mo_generates 83 = .ok (.imul, 1) := by decide +kernel
theorem d_Mo_generates_84 : decode c_Mo_generates 84 = .ok (.iload 4, 2) := by decide +kernel
theorem d_Mo_generates_86 : decode c_Mo_generates 86 = .ok (.iadd, 1) := by decide +kernel
theorem d_Mo_generates_87 : decode c_Mo_generates 87 = .ok (.iaload, 1) := by decide +kernel
theorem d_Mo_generates_88 : decode c_Mo_generates 88 = .ok (.invokevirtual 175, 3) := by decide +kernel
theorem d_Mo_generates_91 : decode c_Mo_generates 91 = .ok (.iastore, 1) := by decide +kernel
theorem d_Mo_generates_92 : decode c_Mo_generates 92 = .ok (.iinc 4 1, 3) := by decide +kernel
theorem d_Mo_generates_95 : decode c_Mo_generates 95 = .ok (.goto (-40), 3) := by decide +kernel
theorem d_Mo_generates_98 : decode c_Mo_generates 98 = .ok (.iinc 3 1, 3) := by decide +kernel
theorem d_Mo_generates_101 : decode c_Mo_generates 101 = .ok (.goto (-54), 3) := by decide +kernel
theorem d_Mo_generates_104 : decode c_Mo_generates 104 = .ok (.iconst 0, 1) := by decide +kernel
theorem d_Mo_generates_105 : decode c_Mo_generates 105 = .ok (.istore_n 3, 1) := by decide +kernel
theorem d_Mo_generates_106 : decode c_Mo_generates 106 = .ok (.iload_n 3, 1) := by decide +kernel
theorem d_Mo_generates_107 : decode c_Mo_generates 107 = .ok (.bipush 16, 2) := by decide +kernel
theorem d_Mo_generates_109 : decode c_Mo_generates 109 = .ok (.if_icmp .ge 121, 3) := by decide +kernel
theorem d_Mo_generates_112 : decode c_Mo_generates 112 = .ok (.iload_n 3, 1) := by decide +kernel
theorem d_Mo_generates_113 : decode c_Mo_generates 113 = .ok (.iconst 4, 1) := by decide +kernel
theorem d_Mo_generates_114 : decode c_Mo_generates 114 = .ok (.idiv, 1) := by decide +kernel
theorem d_Mo_generates_115 : decode c_Mo_generates 115 = .ok (.iconst 4, 1) := by decide +kernel
theorem d_Mo_generates_116 : decode c_Mo_generates 116 = .ok (.imul, 1) := by decide +kernel
theorem d_Mo_generates_117 : decode c_Mo_generates 117 = .ok (.istore 4, 2) := by decide +kernel
theorem d_Mo_generates_119 : decode c_Mo_generates 119 = .ok (.iload_n 3, 1) := by decide +kernel
theorem d_Mo_generates_120 : decode c_Mo_generates 120 = .ok (.iconst 4, 1) := by decide +kernel
theorem d_Mo_generates_121 : decode c_Mo_generates 121 = .ok (.irem, 1) := by decide +kernel
theorem d_Mo_generates_122 : decode c_Mo_generates 122 = .ok (.istore 5, 2) := by decide +kernel
theorem d_Mo_generates_124 : decode c_Mo_generates 124 = .ok (.aload_n 0, 1) := by decide +kernel
theorem d_Mo_generates_125 : decode c_Mo_generates 125 = .ok (.getfield 54, 3) := by decide +kernel
theorem d_Mo_generates_128 : decode c_Mo_generates 128 = .ok (.iload 4, 2) := by decide +kernel
theorem d_Mo_generates_130 : decode c_Mo_generates 130 = .ok (.iload 5, 2) := by decide +kernel
theorem d_Mo_generates_132 : decode c_Mo_generates 132 = .ok (.iadd, 1) := by decide +kernel
theorem d_Mo_generates_133 : decode c_Mo_generates 133 = .ok (.iaload, 1) := by decide +kernel
theorem d_Mo_generates_134 : decode c_Mo_generates 134 = .ok (.iconst 2, 1) := by decide +kernel
theorem d_Mo_generates_135 : decode c_Mo_generates 135 = .ok (.invokestatic 165, 3) := by decide +kernel
theorem d_Mo_generates_138 : decode c_Mo_generates 138 = .ok (.aload_n 0, 1) := by decide +kernel
theorem d_Mo_generates_139 : decode c_Mo_generates 139 = .ok (.getfield 54, 3) := by decide +kernel
theorem d_Mo_generates_142 : decode c_Mo_generates 142 = .ok (.iload 4, 2) := by decide +kernel
theorem d_Mo_generates_144 : decode c_Mo_generates 144 = .ok (.iload 5, 2) := by decide +kernel
theorem d_Mo_generates_146 : decode c_Mo_generates 146 = .ok (.iconst 1, 1) := by decide +kernel
theorem d_Mo_generates_147 : decode c_Mo_generates 147 = .ok (.iadd, 1) := by decide +kernel
theorem d_Mo_generates_148 : decode c_Mo_generates 148 = .ok (.iconst 4, 1) := by decide +kernel
theorem d_Mo_generates_149 : decode c_Mo_generates 149 = .ok (.irem, 1) := by decide +kernel
theorem d_Mo_generates_150 : decode c_Mo_generates 150 = .ok (.iadd, 1) := by decide +kernel
theorem d_Mo_generates_151 : decode c_Mo_generates 151 = .ok (.iaload, 1) := by decide +kernel
theorem d_Mo_generates_152 : decode c_Mo_generates 152 = .ok (.iconst 3, 1) := by decide +kernel
theorem d_Mo_generates_153 : decode c_Mo_generates 153 = .ok (.invokestatic 165, 3) := by decide +kernel
theorem d_Mo_generates_156 : decode c_Mo_generates 156 = .ok (.ixor, 1) := by decide +kernel
theorem d_Mo_generates_157 : decode c_Mo_generates 157 = .ok (.aload_n 0, 1) := by decide +kernel
theorem d_Mo_generates_158 : decode c_Mo_generates 158 = .ok (.getfield 54, 3) := by decide +kernel
theorem d_Mo_generates_161 : decode c_Mo_generates 161 = .ok (.iload 4, 2) := by decide +kernel
theorem d_Mo_generates_163 : decode c_Mo_generates 163 = .ok (.iload 5, 2) := by decide +kernel
theorem d_Mo_generates_165 : decode c_Mo_generates 165 = .ok (.iconst 2, 1) := by decide +kernel
theorem d_Mo_generates_166 : decode c_Mo_generates 166 = .ok (.iadd, 1) := by decide +kernel
theorem d_Mo_generates_167 : decode c_Mo_generates 167 = .ok (.iconst 4, 1) := by decide +kernel
theorem d_Mo_generates_168 : decode c_Mo_generates 168 = .ok (.irem, 1) := by decide +kernel
theorem d_Mo_generates_169 : decode c_Mo_generates 169 = .ok (.iadd, 1) := by decide +kernel
theorem d_Mo_generates_170 : decode c_Mo_generates 170 = .ok (.iaload, 1) := by decide +kernel
theorem d_Mo_generates_171 : decode c_Mo_generates 171 = .ok (.ixor, 1) := by decide +kernel
theorem d_Mo_generates_172 : decode c_Mo_generates 172 = .ok (.aload_n 0, 1) := by decide +kernel
theorem d_Mo_generates_173 : decode c_Mo_generates 173 = .ok (.getfield 54, 3) := by decide +kernel
theorem d_Mo_generates_176 : decode c_Mo_generates 176 = .ok (.iload 4, 2) := by decide +kernel
theorem d_Mo_generates_178 : decode c_Mo_generates 178 = .ok (.iload 5, 2) := by decide +kernel
theorem d_Mo_generates_180 : decode c_Mo_generates 180 = .ok (.iconst 3, 1) := by decide +kernel
theorem d_Mo_generates_181 : decode c_Mo_generates 181 = .ok (.iadd, 1) := by decide +kernel
theorem d_Mo_generates_182 : decode c_Mo_generates 182 = .ok (.iconst 4, 1) := by decide +kernel
theorem d_Mo_generates_183 : decode c_Mo_generates 183 = .ok (.irem, 1) := by decide +kernel
theorem d_Mo_generates_184 : decode c_Mo_generates 184 = .ok (.iadd, 1) := by decide +kernel
theorem d_Mo_generates_185 : decode c_Mo_generates 185 = .ok (.iaload, 1) := by decide +kernel
theorem d_Mo_generates_186 : decode c_Mo_generates 186 = .ok (.ixor, 1) := by decide +kernel
theorem d_Mo_generates_187 : decode c_Mo_generates 187 = .ok (.istore 6, 2) := by decide +kernel
theorem d_Mo_generates_189 : decode c_Mo_generates 189 = .ok (.aload_n 0, 1) := by decide +kernel
theorem d_Mo_generates_190 : decode c_Mo_generates 190 = .ok (.getfield 51, 3) := by decide +kernel
theorem d_Mo_generates_193 : decode c_Mo_generates 193 = .ok (.iload_n 3, 1) := by decide +kernel
theorem d_Mo_generates_194 : decode c_Mo_generates 194 = .ok (.iload_n 2, 1) := by decide +kernel
theorem d_Mo_generates_195 : decode c_Mo_generates 195 = .ok (.bipush 10, 2) := by decide +kernel
theorem d_Mo_generates_197 : decode c_Mo_generates 197 = .ok (.if_icmp .ne 12, 3) := by decide +kernel
theorem d_Mo_generates_200 : decode c_Mo_generates 200 = .ok (.aload_n 0, 1) := by decide +kernel
theorem d_Mo_generates_201 : decode c_Mo_generates 201 = .ok (.getfield 54, 3) := by decide +kernel
theorem d_Mo_generates_204 : decode c_Mo_generates 204 = .ok (.iload_n 3, 1) := by decide +kernel
theorem d_Mo_generates_205 : decode c_Mo_generates 205 = .ok (.iaload, 1) := by decide +kernel
theorem d_Mo_generates_206 : decode c_Mo_generates 206 = .ok (.goto 5, 3) := by decide +kernel
theorem d_Mo_generates_209 : decode c_Mo_generates 209 = .ok (.iload 6, 2) := by decide +kernel
theorem d_Mo_generates_211 : decode c_Mo_generates 211 = .ok (.aload_n 0, 1) := by decide +kernel
theorem d_Mo_generates_212 : decode c_Mo_generates 212 = .ok (.getfield 57, 3) := by decide +kernel
theorem d_Mo_generates_215 : decode c_Mo_generates 215 = .ok (.bipush 16, 2) := by decide +kernel
theorem d_Mo_generates_217 : decode c_Mo_generates 217 = .ok (.iload_n 2, 1) := by decide +kernel
theorem d_Mo_generates_218 : decode c_Mo_generates 218 = .ok (.imul, 1) := by decide +kernel
theorem d_Mo_generates_219 : decode c_Mo_generates 219 = .ok (.iload_n 3, 1) := by decide +kernel
theorem d_Mo_generates_220 : decode c_Mo_generates 220 = .ok (.iadd, 1) := by decide +kernel
theorem d_Mo_generates_221 : decode c_Mo_generates 221 = .ok (.iaload, 1) := by decide +kernel
theorem d_Mo_generates_222 : decode c_Mo_generates 222 = .ok (.ixor, 1) := by decide +kernel
theorem d_Mo_generates_223 : decode c_Mo_generates 223 = .ok (.iastore, 1) := by decide +kernel
theorem d_Mo_generates_224 : decode c_Mo_generates 224 = .ok (.iinc 3 1, 3) := by decide +kernel
theorem d_Mo_generates_227 : decode c_Mo_generates 227 = .ok (.goto (-121), 3) := by decide +kernel
theorem d_Mo_generates_230 : decode c_Mo_generates 230 = .ok (.iinc 2 1, 3) := by decide +kernel
theorem d_Mo_generates_233 : decode c_Mo_generates 233 = .ok (.goto (-194), 3) := by decide +kernel
theorem d_Mo_generates_236 : decode c_Mo_generates 236 = .ok (.iconst 0, 1) := by decide +kernel
theorem d_Mo_generates_237 : decode c_Mo_generates 237 = .ok (.istore_n 2, 1) := by decide +kernel
theorem d_Mo_generates_238 : decode c_Mo_generates 238 = .ok (.iload_n 2, 1) := by decide +kernel
theorem d_Mo_generates_239 : decode c_Mo_generates 239 = .ok (.bipush 16, 2) := by decide +kernel
theorem d_Mo_generates_241 : decode c_Mo_generates 241 = .ok (.if_icmp .ge 23, 3) := by decide +kernel
theorem d_Mo_generates_244 : decode c_Mo_generates 244 = .ok (.aload_n 0, 1) := by decide +kernel
theorem d_Mo_generates_245 : decode c_Mo_generates 245 = .ok (.getfield 48, 3) := by decide +kernel
theorem d_Mo_generates_248 : decode c_Mo_generates 248 = .ok (.iload_n 1, 1) := by decide +kernel
theorem d_Mo_generates_249 : decode c_Mo_generates 249 = .ok (.iload_n 2, 1) := by decide +kernel
theorem d_Mo_generates_250 : decode c_Mo_generates 250 = .ok (.iadd, 1) := by decide +kernel
theorem d_Mo_generates_251 : decode c_Mo_generates 251 = .ok (.aload_n 0, 1) := by decide +kernel
theorem d_Mo_generates_252 : decode c_Mo_generates 252 = .ok (.getfield 51, 3) := by decide +kernel
theorem d_Mo_generates_255 : decode c_Mo_generates 255 = .ok (.iload_n 2, 1) := by decide +kernel
theorem d_Mo_generates_256 : decode c_Mo_generates 256 = .ok (.iaload, 1) := by decide +kernel
theorem d_Mo_generates_257 : decode c_Mo_generates 257 = .ok (.iastore, 1) := by decide +kernel
theorem d_Mo_generates_258 : decode c_Mo_generates 258 = .ok (.iinc 2 1, 3) := by decide +kernel
theorem d_Mo_generates_261 : decode c_Mo_generates 261 = .ok (.goto (-23), 3) := by decide +kernel
theorem d_Mo_generates_264 : decode c_Mo_generates 264 = .ok (.aload_n 0, 1) := by decide +kernel
theorem d_Mo_generates_265 : decode c_Mo_generates 265 = .ok (.invokevirtual 181, 3) := by decide +kernel
theorem d_Mo_generates_268 : decode c_Mo_generates 268 = .ok (.return_, 1) := by decide +kernel
theorem d_Mo_counts_0 : decode c_Mo_counts 0 = .ok (.iconst 0, 1) := by decide +kernel
theorem d_Mo_counts_1 : decode c_Mo_counts 1 = .ok (.istore_n 1, 1) := by decide +kernel
theorem d_Mo_counts_2 : decode c_Mo_counts 2 = .ok (.iload_n 1, 1) := by decide +kernel
theorem d_Mo_counts_3 : decode c_Mo_counts 3 = .ok (.bipush 16, 2) := by decide +kernel
theorem d_Mo_counts_5 : decode c_Mo_counts 5 = .ok (.if_icmp .ge 28, 3) := by decide +kernel
theorem d_Mo_counts_8 : decode c_Mo_counts 8 = .ok (.aload_n 0, 1) := by decide +kernel
theorem d_Mo_counts_9 : decode c_Mo_counts 9 = .ok (.getfield 13, 3) := by decide +kernel
theorem d_Mo_counts_12 : decode c_Mo_counts 12 = .ok (.iload_n 1, 1) := by decide +kernel
theorem d_Mo_counts_13 : decode c_Mo_counts 13 = .ok (.iaload, 1) := by decide +kernel
theorem d_Mo_counts_14 : decode c_Mo_counts 14 = .ok (.sipush 255, 3) := by decide +kernel
theorem d_Mo_counts_17 : decode c_Mo_counts 17 = .ok (.if_icmp .ne 16, 3) := by decide +kernel
theorem d_Mo_counts_20 : decode c_Mo_counts 20 = .ok (.aload_n 0, 1) := by decide +kernel
theorem d_Mo_counts_21 : decode c_Mo_counts 21 = .ok (.getfield 13, 3) := by decide +kernel
theorem d_Mo_counts_24 : decode c_Mo_counts 24 = .ok (.iload_n 1, 1) := by decide +kernel
theorem d_Mo_counts_25 : decode c_Mo_counts 25 = .ok (.iconst 0, 1) := by decide +kernel
theorem d_Mo_counts_26 : decode c_Mo_counts 26 = .ok (.iastore, 1) := by decide +kernel
theorem d_Mo_counts_27 : decode c_Mo_counts 27 = .ok (.iinc 1 1, 3) := by decide +kernel
theorem d_Mo_counts_30 : decode c_Mo_counts 30 = .ok (.goto (-28), 3) := by decide +kernel
theorem d_Mo_counts_33 : decode c_Mo_counts 33 = .ok (.iload_n 1, 1) := by decide +kernel
theorem d_Mo_counts_34 : decode c_Mo_counts 34 = .ok (.bipush 16, 2) := by decide +kernel
theorem d_Mo_counts_36 : decode c_Mo_counts 36 = .ok (.if_icmp .ge 13, 3) := by decide +kernel
theorem d_Mo_counts_39 : decode c_Mo_counts 39 = .ok (.aload_n 0, 1) := by decide +kernel
theorem d_Mo_counts_40 : decode c_Mo_counts 40 = .ok (.getfield 13, 3) := by decide +kernel
theorem d_Mo_counts_43 : decode c_Mo_counts 43 = .ok (.iload_n 1, 1) := by decide +kernel
theorem d_Mo_counts_44 : decode c_Mo_counts 44 = .ok (.dup2, 1) := by decide +kernel
theorem d_Mo_counts_45 : decode c_Mo_counts 45 = .ok (.iaload, 1) := by decide +kernel
theorem d_Mo_counts_46 : decode c_Mo_counts 46 = .ok (.iconst 1, 1) := by decide +kernel
theorem d_Mo_counts_47 : decode c_Mo_counts 47 = .ok (.iadd, 1) := by decide +kernel
theorem d_Mo_counts_48 : decode c_Mo_counts 48 = .ok (.iastore, 1) := by decide +kernel
theorem d_Mo_counts_49 : decode c_Mo_counts 49 = .ok (.return_, 1) := by decide +kernel
theorem d_Mo_isSeeded_0 : decode c_Mo_isSeeded 0 = .ok (.iconst 0, 1) := by decide +kernel
theorem d_Mo_isSeeded_1 : decode c_Mo_isSeeded 1 = .ok (.istore_n 1, 1) := by decide +kernel
theorem d_Mo_isSeeded_2 : decode c_Mo_isSeeded 2 = .ok (.iconst 0, 1) := by decide +kernel
theorem d_Mo_isSeeded_3 : decode c_Mo_isSeeded 3 = .ok (.istore_n 2, 1) := by decide +kernel
theorem d_Mo_isSeeded_4 : decode c_Mo_isSeeded 4 = .ok (.iload_n 2, 1) := by decide +kernel
theorem d_Mo_isSeeded_5 : decode c_Mo_isSeeded 5 = .ok (.bipush 16, 2) := by decide +kernel
theorem d_Mo_isSeeded_7 : decode c_Mo_isSeeded 7 = .ok (.if_icmp .ge 18, 3) := by decide +kernel
theorem d_Mo_isSeeded_10 : decode c_Mo_isSeeded 10 = .ok (.iload_n 1, 1) := by decide +kernel
theorem d_Mo_isSeeded_11 : decode c_Mo_isSeeded 11 = .ok (.aload_n 0, 1) := by decide +kernel
theorem d_Mo_isSeeded_12 : decode c_Mo_isSeeded 12 = .ok (.getfield 13, 3) := by decide +kernel
theorem d_Mo_isSeeded_15 : decode c_Mo_isSeeded 15 = .ok (.iload_n 2, 1) := by decide +kernel
theorem d_Mo_isSeeded_16 : decode c_Mo_isSeeded 16 = .ok (.iaload, 1) := by decide +kernel
theorem d_Mo_isSeeded_17 : decode c_Mo_isSeeded 17 = .ok (.iadd, 1) := by decide +kernel
theorem d_Mo_isSeeded_18 : decode c_Mo_isSeeded 18 = .ok (.istore_n 1, 1) := by decide +kernel
theorem d_Mo_isSeeded_19 : decode c_Mo_isSeeded 19 = .ok (.iinc 2 1, 3) := by decide +kernel
theorem d_Mo_isSeeded_22 : decode c_Mo_isSeeded 22 = .ok (.goto (-18), 3) := by decide +kernel
theorem d_Mo_isSeeded_25 : decode c_Mo_isSeeded 25 = .ok (.iload_n 1, 1) := by decide +kernel
theorem d_Mo_isSeeded_26 : decode c_Mo_isSeeded 26 = .ok (.ifCond .le 7, 3) := by decide +kernel
theorem d_Mo_isSeeded_29 : decode c_Mo_isSeeded 29 = .ok (.iconst 1, 1) := by decide +kernel
theorem d_Mo_isSeeded_30 : decode c_Mo_isSeeded 30 = .ok (.goto 4, 3) := by decide +kernel
theorem d_Mo_isSeeded_33 : decode c_Mo_isSeeded 33 = .ok (.iconst 0, 1) := by decide +kernel
theorem d_Mo_isSeeded_34 : decode c_Mo_isSeeded 34 = .ok (.ireturn, 1) := by decide +kernel
theorem d_Mo_generatesAll_0 : decode c_Mo_generatesAll 0 = .ok (.iload_n 1, 1) := by decide +kernel
theorem d_Mo_generatesAll_1 : decode c_Mo_generatesAll 1 = .ok (.bipush 15, 2) := by decide +kernel
theorem d_Mo_generatesAll_3 : decode c_Mo_generatesAll 3 = .ok (.iadd, 1) := by decide +kernel
theorem d_Mo_generatesAll_4 : decode c_Mo_generatesAll 4 = .ok (.bipush 16, 2) := by decide +kernel
theorem d_Mo_generatesAll_6 : decode c_Mo_generatesAll 6 = .ok (.idiv, 1) := by decide +kernel
theorem d_Mo_generatesAll_7 : decode c_Mo_generatesAll 7 = .ok (.istore_n 2, 1) := by decide +kernel
theorem d_Mo_generatesAll_8 : decode c_Mo_generatesAll 8 = .ok (.iconst 0, 1) := by decide +kernel
theorem d_Mo_generatesAll_9 : decode c_Mo_generatesAll 9 = .ok (.istore_n 3, 1) := by decide +kernel
theorem d_Mo_generatesAll_10 : decode c_Mo_generatesAll 10 = .ok (.iload_n 3, 1) := by decide +kernel
theorem d_Mo_generatesAll_11 : decode c_Mo_generatesAll 11 = .ok (.iload_n 2, 1) := by decide +kernel
theorem d_Mo_generatesAll_12 : decode c_Mo_generatesAll 12 = .ok (.if_icmp .ge 17, 3) := by decide +kernel
theorem d_Mo_generatesAll_15 : decode c_Mo_generatesAll 15 = .ok (.aload_n 0, 1) := by decide +kernel
theorem d_Mo_generatesAll_16 : decode c_Mo_generatesAll 16 = .ok (.bipush 16, 2) := by decide +kernel
theorem d_Mo_generatesAll_18 : decode c_Mo_generatesAll 18 = .ok (.iload_n 3, 1) := by decide +kernel
theorem d_Mo_generatesAll_19 : decode c_Mo_generatesAll 19 = .ok (.imul, 1) := by decide +kernel
theorem d_Mo_generatesAll_20 : decode c_Mo_generatesAll 20 = .ok (.invokevirtual 184, 3) := by decide +kernel
theorem d_Mo_generatesAll_23 : decode c_Mo_generatesAll 23 = .ok (.iinc 3 1, 3) := by decide +kernel
theorem d_Mo_generatesAll_26 : decode c_Mo_generatesAll 26 = .ok (.goto (-16), 3) := by decide +kernel
theorem d_Mo_generatesAll_29 : decode c_Mo_generatesAll 29 = .ok (.aload_n 0, 1) := by decide +kernel
theorem d_Mo_generatesAll_30 : decode c_Mo_generatesAll 30 = .ok (.sipush 256, 3) := by decide +kernel
theorem d_Mo_generatesAll_33 : decode c_Mo_generatesAll 33 = .ok (.invokevirtual 184, 3) := by decide +kernel
theorem d_Mo_generatesAll_36 : decode c_Mo_generatesAll 36 = .ok (.iconst 0, 1) := by decide +kernel
theorem d_Mo_generatesAll_37 : decode c_Mo_generatesAll 37 = .ok (.istore_n 3, 1) := by decide +kernel
theorem d_Mo_generatesAll_38 : decode c_Mo_generatesAll 38 = .ok (.iload_n 3, 1) := by decide +kernel
theorem d_Mo_generatesAll_39 : decode c_Mo_generatesAll 39 = .ok (.bipush 16, 2) := by decide +kernel
theorem d_Mo_generatesAll_41 : decode c_Mo_generatesAll 41 = .ok (.if_icmp .ge 25, 3) := by decide +kernel
theorem d_Mo_generatesAll_44 : decode c_Mo_generatesAll 44 = .ok (.aload_n 0, 1) := by decide +kernel
theorem d_Mo_generatesAll_45 : decode c_Mo_generatesAll 45 = .ok (.getfield 7, 3) := by decide +kernel
theorem d_Mo_generatesAll_48 : decode c_Mo_generatesAll 48 = .ok (.iload_n 3, 1) := by decide +kernel
theorem d_Mo_generatesAll_49 : decode c_Mo_generatesAll 49 = .ok (.aload_n 0, 1) := by decide +kernel
theorem d_Mo_generatesAll_50 : decode c_Mo_generatesAll 50 = .ok (.getfield 48, 3) := by decide +kernel
theorem d_Mo_generatesAll_53 : decode c_Mo_generatesAll 53 = .ok (.sipush 256, 3) := by decide +kernel
theorem d_Mo_generatesAll_56 : decode c_Mo_generatesAll 56 = .ok (.iload_n 3, 1) := by decide +kernel
theorem d_Mo_generatesAll_57 : decode c_Mo_generatesAll 57 = .ok (.iadd, 1) := by decide +kernel
theorem d_Mo_generatesAll_58 : decode c_Mo_generatesAll 58 = .ok (.iaload, 1) := by decide +kernel
theorem d_Mo_generatesAll_59 : decode c_Mo_generatesAll 59 = .ok (.iastore, 1) := by decide +kernel
theorem d_Mo_generatesAll_60 : decode c_Mo_generatesAll 60 = .ok (.iinc 3 1, 3) := by decide +kernel
theorem d_Mo_generatesAll_63 : decode c_Mo_generatesAll 63 = .ok (.goto (-25), 3) := by decide +kernel
theorem d_Mo_generatesAll_66 : decode c_Mo_generatesAll 66 = .ok (.return_, 1) := by decide +kernel
theorem d_Mo_reseeds_0 : decode c_Mo_reseeds 0 = .ok (.aload_n 0, 1) := by decide +kernel
theorem d_Mo_reseeds_1 : decode c_Mo_reseeds 1 = .ok (.bipush 16, 2) := by decide +kernel
theorem d_Mo_reseeds_3 : decode c_Mo_reseeds 3 = .ok (.iload_n 1, 1) := by decide +kernel
theorem d_Mo_reseeds_4 : decode c_Mo_reseeds 4 = .ok (.iadd, 1) := by decide +kernel
theorem d_Mo_reseeds_5 : decode c_Mo_reseeds 5 = .ok (.putfield 138, 3) := by decide +kernel
theorem d_Mo_reseeds_8 : decode c_Mo_reseeds 8 = .ok (.iconst 0, 1) := by decide +kernel
theorem d_Mo_reseeds_9 : decode c_Mo_reseeds 9 = .ok (.istore_n 2, 1) := by decide +kernel
theorem d_Mo_reseeds_10 : decode c_Mo_reseeds 10 = .ok (.iload_n 2, 1) := by decide +kernel
theorem d_Mo_reseeds_11 : decode c_Mo_reseeds 11 = .ok (.bipush 16, 2) := by decide +kernel
theorem d_Mo_reseeds_13 : decode c_Mo_reseeds 13 = .ok (.if_icmp .ge 21, 3) := by decide +kernel
theorem d_Mo_reseeds_16 : decode c_Mo_reseeds 16 = .ok (.aload_n 0, 1) := by decide +kernel
theorem d_Mo_reseeds_17 : decode c_Mo_reseeds 17 = .ok (.getfield 33, 3) := by decide +kernel
theorem d_Mo_reseeds_20 : decode c_Mo_reseeds 20 = .ok (.iload_n 2, 1) := by decide +kernel
theorem d_Mo_reseeds_21 : decode c_Mo_reseeds 21 = .ok (.aload_n 0, 1) := by decide +kernel
theorem d_Mo_reseeds_22 : decode c_Mo_reseeds 22 = .ok (.getfield 7, 3) := by decide +kernel
theorem d_Mo_reseeds_25 : decode c_Mo_reseeds 25 = .ok (.iload_n 2, 1) := by decide +kernel
theorem d_Mo_reseeds_26 : decode c_Mo_reseeds 26 = .ok (.iaload, 1) := by decide +kernel
theorem d_Mo_reseeds_27 : decode c_Mo_reseeds 27 = .ok (.iastore, 1) := by decide +kernel
theorem d_Mo_reseeds_28 : decode c_Mo_reseeds 28 = .ok (.iinc 2 1, 3) := by decide +kernel
theorem d_Mo_reseeds_31 : decode c_Mo_reseeds 31 = .ok (.goto (-21), 3) := by decide +kernel
theorem d_Mo_reseeds_34 : decode c_Mo_reseeds 34 = .ok (.iconst 0, 1) := by decide +kernel
theorem d_Mo_reseeds_35 : decode c_Mo_reseeds 35 = .ok (.istore_n 2, 1) := by decide +kernel
theorem d_Mo_reseeds_36 : decode c_Mo_reseeds 36 = .ok (.iload_n 2, 1) := by decide +kernel
theorem d_Mo_reseeds_37 : decode c_Mo_reseeds 37 = .ok (.iload_n 1, 1) := by decide +kernel
theorem d_Mo_reseeds_38 : decode c_Mo_reseeds 38 = .ok (.if_icmp .ge 24, 3) := by decide +kernel
theorem d_Mo_reseeds_41 : decode c_Mo_reseeds 41 = .ok (.aload_n 0, 1) := by decide +kernel
theorem d_Mo_reseeds_42 : decode c_Mo_reseeds 42 = .ok (.getfield 33, 3) := by decide +kernel
theorem d_Mo_reseeds_45 : decode c_Mo_reseeds 45 = .ok (.bipush 16, 2) := by decide +kernel
theorem d_Mo_reseeds_47 : decode c_Mo_reseeds 47 = .ok (.iload_n 2, 1) := by decide +kernel
theorem d_Mo_reseeds_48 : decode c_Mo_reseeds 48 = .ok (.iadd, 1) := by decide +kernel
theorem d_Mo_reseeds_49 : decode c_Mo_reseeds 49 = .ok (.aload_n 0, 1) := by decide +kernel
theorem d_Mo_reseeds_50 : decode c_Mo_reseeds 50 = .ok (.getfield 45, 3) := by decide +kernel
theorem d_Mo_reseeds_53 : decode c_Mo_reseeds 53 = .ok (.iload_n 2, 1) := by decide +kernel
theorem d_Mo_reseeds_54 : decode c_Mo_reseeds 54 = .ok (.iaload, 1) := by decide +kernel
theorem d_Mo_reseeds_55 : decode c_Mo_reseeds 55 = .ok (.iastore, 1) := by decide +kernel
theorem d_Mo_reseeds_56 : decode c_Mo_reseeds 56 = .ok (.iinc 2 1, 3) := by decide +kernel
theorem d_Mo_reseeds_59 : decode c_Mo_reseeds 59 = .ok (.goto (-23), 3) := by decide +kernel
theorem d_Mo_reseeds_62 : decode c_Mo_reseeds 62 = .ok (.aload_n 0, 1) := by decide +kernel
theorem d_Mo_reseeds_63 : decode c_Mo_reseeds 63 = .ok (.invokevirtual 162, 3) := by decide +kernel
theorem d_Mo_reseeds_66 : decode c_Mo_reseeds 66 = .ok (.iconst 0, 1) := by decide +kernel
theorem d_Mo_reseeds_67 : decode c_Mo_reseeds 67 = .ok (.istore_n 2, 1) := by decide +kernel
theorem d_Mo_reseeds_68 : decode c_Mo_reseeds 68 = .ok (.iload_n 2, 1) := by decide +kernel
theorem d_Mo_reseeds_69 : decode c_Mo_reseeds 69 = .ok (.bipush 16, 2) := by decide +kernel
theorem d_Mo_reseeds_71 : decode c_Mo_reseeds 71 = .ok (.if_icmp .ge 21, 3) := by decide +kernel
theorem d_Mo_reseeds_74 : decode c_Mo_reseeds 74 = .ok (.aload_n 0, 1) := by decide +kernel
theorem d_Mo_reseeds_75 : decode c_Mo_reseeds 75 = .ok (.getfield 7, 3) := by decide +kernel
theorem d_Mo_reseeds_78 : decode c_Mo_reseeds 78 = .ok (.iload_n 2, 1) := by decide +kernel
theorem d_Mo_reseeds_79 : decode c_Mo_reseeds 79 = .ok (.aload_n 0, 1) := by decide +kernel
theorem d_Mo_reseeds_80 : decode c_Mo_reseeds 80 = .ok (.getfield 42, 3) := by decide +kernel
theorem d_Mo_reseeds_83 : decode c_Mo_reseeds 83 = .ok (.iload_n 2, 1) := by decide +kernel
theorem d_Mo_reseeds_84 : decode c_Mo_reseeds 84 = .ok (.iaload, 1) := by decide +kernel
theorem d_Mo_reseeds_85 : decode c_Mo_reseeds 85 = .ok (.iastore, 1) := by decide +kernel
theorem d_Mo_reseeds_86 : decode c_Mo_reseeds 86 = .ok (.iinc 2 1, 3) := by decide +kernel
theorem d_Mo_reseeds_89 : decode c_Mo_reseeds 89 = .ok (.goto (-21), 3) := by decide +kernel
theorem d_Mo_reseeds_92 : decode c_Mo_reseeds 92 = .ok (.aload_n 0, 1) := by decide +kernel
theorem d_Mo_reseeds_93 : decode c_Mo_reseeds 93 = .ok (.invokevirtual 181, 3) := by decide +kernel
theorem d_Mo_reseeds_96 : decode c_Mo_reseeds 96 = .ok (.return_, 1) := by decide +kernel
theorem d_Mo_first_0 : decode c_Mo_first 0 = .ok (.iconst 0, 1) := by decide +kernel
theorem d_Mo_first_1 : decode c_Mo_first 1 = .ok (.istore_n 1, 1) := by decide +kernel
theorem d_Mo_first_2 : decode c_Mo_first 2 = .ok (.iload_n 1, 1) := by decide +kernel
theorem d_Mo_first_3 : decode c_Mo_first 3 = .ok (.bipush 16, 2) := by decide +kernel
theorem d_Mo_first_5 : decode c_Mo_first 5 = .ok (.if_icmp .ge 23, 3) := by decide +kernel
theorem d_Mo_first_8 : decode c_Mo_first 8 = .ok (.aload_n 0, 1) := by decide +kernel
theorem d_Mo_first_9 : decode c_Mo_first 9 = .ok (.getfield 7, 3) := by decide +kernel
theorem d_Mo_first_12 : decode c_Mo_first 12 = .ok (.iload_n 1, 1) := by decide +kernel
theorem d_Mo_first_13 : decode c_Mo_first 13 = .ok (.iconst 0, 1) := by decide +kernel
theorem d_Mo_first_14 : decode c_Mo_first 14 = .ok (.iastore, 1) := by decide +kernel
theorem d_Mo_first_15 : decode c_Mo_first 15 = .ok (.aload_n 0, 1) := by decide +kernel
theorem d_Mo_first_16 : decode c_Mo_first 16 = .ok (.getfield 13, 3) := by decide +kernel
theorem d_Mo_first_19 : decode c_Mo_first 19 = .ok (.iload_n 1, 1) := by decide +kernel
theorem d_Mo_first_20 : decode c_Mo_first 20 = .ok (.iconst 0, 1) := by decide +kernel
theorem d_Mo_first_21 : decode c_Mo_first 21 = .ok (.iastore, 1) := by decide +kernel
theorem d_Mo_first_22 : decode c_Mo_first 22 = .ok (.iinc 1 1, 3) := by decide +kernel
theorem d_Mo_first_25 : decode c_Mo_first 25 = .ok (.goto (-23), 3) := by decide +kernel
theorem d_Mo_first_28 : decode c_Mo_first 28 = .ok (.iconst 0, 1) := by decide +kernel
theorem d_Mo_first_29 : decode c_Mo_first 29 = .ok (.istore_n 1, 1) := by decide +kernel
theorem d_Mo_first_30 : decode c_Mo_first 30 = .ok (.iload_n 1, 1) := by decide +kernel
theorem d_Mo_first_31 : decode c_Mo_first 31 = .ok (.bipush 32, 2) := by decide +kernel
theorem d_Mo_first_33 : decode c_Mo_first 33 = .ok (.if_icmp .ge 16, 3) := by decide +kernel
theorem d_Mo_first_36 : decode c_Mo_first 36 = .ok (.aload_n 0, 1) := by decide +kernel
theorem d_Mo_first_37 : decode c_Mo_first 37 = .ok (.getfield 20, 3) := by decide +kernel
theorem d_Mo_first_40 : decode c_Mo_first 40 = .ok (.iload_n 1, 1) := by decide +kernel
theorem d_Mo_first_41 : decode c_Mo_first 41 = .ok (.iconst 0, 1) := by decide +kernel
theorem d_Mo_first_42 : decode c_Mo_first 42 = .ok (.iastore, 1) := by decide +kernel
theorem d_Mo_first_43 : decode c_Mo_first 43 = .ok (.iinc 1 1, 3) := by decide +kernel
theorem d_Mo_first_46 : decode c_Mo_first 46 = .ok (.goto (-16), 3) := by decide +kernel
theorem d_Mo_first_49 : decode c_Mo_first 49 = .ok (.aload_n 0, 1) := by decide +kernel
theorem d_Mo_first_50 : decode c_Mo_first 50 = .ok (.iconst 0, 1) := by decide +kernel
theorem d_Mo_first_51 : decode c_Mo_first 51 = .ok (.putfield 188, 3) := by decide +kernel
theorem d_Mo_first_54 : decode c_Mo_first 54 = .ok (.aload_n 0, 1) := by decide +kernel
theorem d_Mo_first_55 : decode c_Mo_first 55 = .ok (.iconst 0, 1) := by decide +kernel
theorem d_Mo_first_56 : decode c_Mo_first 56 = .ok (.putfield 191, 3) := by decide +kernel
theorem d_Mo_first_59 : decode c_Mo_first 59 = .ok (.aload_n 0, 1) := by decide +kernel
theorem d_Mo_first_60 : decode c_Mo_first 60 = .ok (.iconst (-1), 1) := by decide +kernel
theorem d_Mo_first_61 : decode c_Mo_first 61 = .ok (.putfield 16, 3) := by decide +kernel
theorem d_Mo_first_64 : decode c_Mo_first 64 = .ok (.aload_n 0, 1) := by decide +kernel
theorem d_Mo_first_65 : decode c_Mo_first 65 = .ok (.iconst 0, 1) := by decide +kernel
theorem d_Mo_first_66 : decode c_Mo_first 66 = .ok (.putfield 194, 3) := by decide +kernel
theorem d_Mo_first_69 : decode c_Mo_first 69 = .ok (.aload_n 0, 1) := by decide +kernel
theorem d_Mo_first_70 : decode c_Mo_first 70 = .ok (.iconst 0, 1) := by decide +kernel
theorem d_Mo_first_71 : decode c_Mo_first 71 = .ok (.putfield 197, 3) := by decide +kernel
theorem d_Mo_first_74 : decode c_Mo_first 74 = .ok (.return_, 1) := by decide +kernel
theorem d_Mo_init_0 : decode c_Mo_init 0 = .ok (.aload_n 0, 1) := by decide +kernel
theorem d_Mo_init_1 : decode c_Mo_init 1 = .ok (.iconst 0, 1) := by decide +kernel
theorem d_Mo_init_2 : decode c_Mo_init 2 = .ok (.putfield 63, 3) := by decide +kernel
theorem d_Mo_init_5 : decode c_Mo_init 5 = .ok (.aload_n 0, 1) := by decide +kernel
theorem d_Mo_init_6 : decode c_Mo_init 6 = .ok (.invokevirtual 200, 3) := by decide +kernel
theorem d_Mo_init_9 : decode c_Mo_init 9 = .ok (.return_, 1) := by decide +kernel
theorem d_Mo_event_0 : decode c_Mo_event 0 = .ok (.aload_n 0, 1) := by decide +kernel
theorem d_Mo_event_1 : decode c_Mo_event 1 = .ok (.iconst 0, 1) := by decide +kernel
theorem d_Mo_event_2 : decode c_Mo_event 2 = .ok (.putfield 63, 3) := by decide +kernel
theorem d_Mo_event_5 : decode c_Mo_event 5 = .ok (.iload_n 1, 1) := by decide +kernel
theorem d_Mo_event_6 : decode c_Mo_event 6 = .ok (.sipush 256, 3) := by decide +kernel
theorem d_Mo_event_9 : decode c_Mo_event 9 = .ok (.invokestatic 203, 3) := by decide +kernel
theorem d_Mo_event_12 : decode c_Mo_event 12 = .ok (.ifCond .eq 22, 3) := by decide +kernel
theorem d_Mo_event_15 : decode c_Mo_event 15 = .ok (.iload_n 2, 1) := by decide +kernel
theorem d_Mo_event_16 : decode c_Mo_event 16 = .ok (.bipush 32, 2) := by decide +kernel
theorem d_Mo_event_18 : decode c_Mo_event 18 = .ok (.invokestatic 203, 3) := by decide +kernel
theorem d_Mo_event_21 : decode c_Mo_event 21 = .ok (.ifCond .eq 13, 3) := by decide +kernel
theorem d_Mo_event_24 : decode c_Mo_event 24 = .ok (.iload_n 3, 1) := by decide +kernel
theorem d_Mo_event_25 : decode c_Mo_event 25 = .ok (.sipush 256, 3) := by decide +kernel
theorem d_Mo_event_28 : decode c_Mo_event 28 = .ok (.invokestatic 203, 3) := by decide +kernel
theorem d_Mo_event_31 : decode c_Mo_event 31 = .ok (.ifCond .ne 5, 3) := by decide +kernel
theorem d_Mo_event_34 : decode c_Mo_event 34 = .ok (.iconst 0, 1) := by decide +kernel
theorem d_Mo_event_35 : decode c_Mo_event 35 = .ok (.ireturn, 1) := by decide +kernel
theorem d_Mo_event_36 : decode c_Mo_event 36 = .ok (.sipush 1600, 3) := by decide +kernel
theorem d_Mo_event_39 : decode c_Mo_event 39 = .ok (.iload_n 2, 1) := by decide +kernel
theorem d_Mo_event_40 : decode c_Mo_event 40 = .ok (.imul, 1) := by decide +kernel
theorem d_Mo_event_41 : decode c_Mo_event 41 = .ok (.aload_n 0, 1) := by decide +kernel
theorem d_Mo_event_42 : decode c_Mo_event 42 = .ok (.getfield 20, 3) := by decide +kernel
theorem d_Mo_event_45 : decode c_Mo_event 45 = .ok (.iload_n 2, 1) := by decide +kernel
theorem d_Mo_event_46 : decode c_Mo_event 46 = .ok (.iaload, 1) := by decide +kernel
theorem d_Mo_event_47 : decode c_Mo_event 47 = .ok (.iadd, 1) := by decide +kernel
theorem d_Mo_event_48 : decode c_Mo_event 48 = .ok (.istore 4, 2) := by decide +kernel
theorem d_Mo_event_50 : decode c_Mo_event 50 = .ok (.aload_n 0, 1) := by decide +kernel
theorem d_Mo_event_51 : decode c_Mo_event 51 = .ok (.getfield 24, 3) := by decide +kernel
theorem d_Mo_event_54 : decode c_Mo_event 54 = .ok (.iload 4, 2) := by decide +kernel
theorem d_Mo_event_56 : decode c_Mo_event 56 = .ok (.iload_n 1, 1) := by decide +kernel
theorem d_Mo_event_57 : decode c_Mo_event 57 = .ok (.iastore, 1) := by decide +kernel
theorem d_Mo_event_58 : decode c_Mo_event 58 = .ok (.aload_n 0, 1) := by decide +kernel
theorem d_Mo_event_59 : decode c_Mo_event 59 = .ok (.getfield 24, 3) := by decide +kernel
theorem d_Mo_event_62 : decode c_Mo_event 62 = .ok (.iload 4, 2) := by decide +kernel
theorem d_Mo_event_64 : decode c_Mo_event 64 = .ok (.iconst 1, 1) := by decide +kernel
theorem d_Mo_event_65 : decode c_Mo_event 65 = .ok (.iadd, 1) := by decide +kernel
theorem d_Mo_event_66 : decode c_Mo_event 66 = .ok (.iconst 1, 1) := by decide +kernel
theorem d_Mo_event_67 : decode c_Mo_event 67 = .ok (.iastore, 1) := by decide +kernel
theorem d_Mo_event_68 : decode c_Mo_event 68 = .ok (.aload_n 0, 1) := by decide +kernel
theorem d_Mo_event_69 : decode c_Mo_event 69 = .ok (.getfield 24, 3) := by decide +kernel
theorem d_Mo_event_72 : decode c_Mo_event 72 = .ok (.iload 4, 2) := by decide +kernel
theorem d_Mo_event_74 : decode c_Mo_event 74 = .ok (.iconst 2, 1) := by decide +kernel
theorem d_Mo_event_75 : decode c_Mo_event 75 = .ok (.iadd, 1) := by decide +kernel
theorem d_Mo_event_76 : decode c_Mo_event 76 = .ok (.iload_n 3, 1) := by decide +kernel
theorem d_Mo_event_77 : decode c_Mo_event 77 = .ok (.iastore, 1) := by decide +kernel
theorem d_Mo_event_78 : decode c_Mo_event 78 = .ok (.aload_n 0, 1) := by decide +kernel
theorem d_Mo_event_79 : decode c_Mo_event 79 = .ok (.getfield 20, 3) := by decide +kernel
theorem d_Mo_event_82 : decode c_Mo_event 82 = .ok (.iload_n 2, 1) := by decide +kernel
theorem d_Mo_event_83 : decode c_Mo_event 83 = .ok (.dup2, 1) := by decide +kernel
theorem d_Mo_event_84 : decode c_Mo_event 84 = .ok (.iaload, 1) := by decide +kernel
theorem d_Mo_event_85 : decode c_Mo_event 85 = .ok (.iconst 3, 1) := by decide +kernel
theorem d_Mo_event_86 : decode c_Mo_event 86 = .ok (.iadd, 1) := by decide +kernel
theorem d_Mo_event_87 : decode c_Mo_event 87 = .ok (.iastore, 1) := by decide +kernel
theorem d_Mo_event_88 : decode c_Mo_event 88 = .ok (.iconst 1, 1) := by decide +kernel
theorem d_Mo_event_89 : decode c_Mo_event 89 = .ok (.ireturn, 1) := by decide +kernel
theorem d_Mo_tick_0 : decode c_Mo_tick 0 = .ok (.aload_n 0, 1) := by decide +kernel
theorem d_Mo_tick_1 : decode c_Mo_tick 1 = .ok (.iconst 0, 1) := by decide +kernel
theorem d_Mo_tick_2 : decode c_Mo_tick 2 = .ok (.putfield 63, 3) := by decide +kernel
theorem d_Mo_tick_5 : decode c_Mo_tick 5 = .ok (.aload_n 0, 1) := by decide +kernel
theorem d_Mo_tick_6 : decode c_Mo_tick 6 = .ok (.dup, 1) := by decide +kernel
theorem d_Mo_tick_7 : decode c_Mo_tick 7 = .ok (.getfield 191, 3) := by decide +kernel
theorem d_Mo_tick_10 : decode c_Mo_tick 10 = .ok (.iload_n 1, 1) := by decide +kernel
theorem d_Mo_tick_11 : decode c_Mo_tick 11 = .ok (.ifCond .le 18, 3) := by decide +kernel
theorem d_Mo_tick_14 : decode c_Mo_tick 14 = .ok (.iload_n 1, 1) := by decide +kernel
theorem d_Mo_tick_15 : decode c_Mo_tick 15 = .ok (.ldc 207, 2) := by decide +kernel
theorem d_Mo_tick_17 : decode c_Mo_tick 17 = .ok (.aload_n 0, 1) := by decide +kernel
theorem d_Mo_tick_18 : decode c_Mo_tick 18 = .ok (.getfield 191, 3) := by decide +kernel
theorem d_Mo_tick_21 : decode c_Mo_tick 21 = .ok (.isub, 1) := by decide +kernel
theorem d_Mo_tick_22 : decode c_Mo_tick 22 = .ok (.if_icmp .gt 7, 3) := by decide +kernel
theorem d_Mo_tick_25 : decode c_Mo_tick 25 = .ok (.iload_n 1, 1) := by decide +kernel
theorem d_Mo_tick_26 : decode c_Mo_tick 26 = .ok (.goto 4, 3) := by decide +kernel
theorem d_Mo_tick_29 : decode c_Mo_tick 29 = .ok (.iconst 0, 1) := by decide +kernel
theorem d_Mo_tick_30 : decode c_Mo_tick 30 = .ok (.iadd, 1) := by decide +kernel
theorem d_Mo_tick_31 : decode c_Mo_tick 31 = .ok (.putfield 191, 3) := by decide +kernel
theorem d_Mo_tick_34 : decode c_Mo_tick 34 = .ok (.aload_n 0, 1) := by decide +kernel
theorem d_Mo_tick_35 : decode c_Mo_tick 35 = .ok (.getfield 191, 3) := by decide +kernel
theorem d_Mo_tick_38 : decode c_Mo_tick 38 = .ok (.ireturn, 1) := by decide +kernel
theorem d_Mo_draws_0 : decode c_Mo_draws 0 = .ok (.aload_n 0, 1) := by decide +kernel
theorem d_Mo_draws_1 : decode c_Mo_draws 1 = .ok (.dup, 1) := by decide +kernel
theorem d_Mo_draws_2 : decode c_Mo_draws 2 = .ok (.getfield 188, 3) := by decide +kernel
theorem d_Mo_draws_5 : decode c_Mo_draws 5 = .ok (.iconst 1, 1) := by decide +kernel
theorem d_Mo_draws_6 : decode c_Mo_draws 6 = .ok (.iadd, 1) := by decide +kernel
theorem d_Mo_draws_7 : decode c_Mo_draws 7 = .ok (.putfield 188, 3) := by decide +kernel
theorem d_Mo_draws_10 : decode c_Mo_draws 10 = .ok (.iconst 0, 1) := by decide +kernel
theorem d_Mo_draws_11 : decode c_Mo_draws 11 = .ok (.istore_n 1, 1) := by decide +kernel
theorem d_Mo_draws_12 : decode c_Mo_draws 12 = .ok (.iconst 1, 1) := by decide +kernel
theorem d_Mo_draws_13 : decode c_Mo_draws 13 = .ok (.istore_n 2, 1) := by decide +kernel
theorem d_Mo_draws_14 : decode c_Mo_draws 14 = .ok (.iconst 0, 1) := by decide +kernel
theorem d_Mo_draws_15 : decode c_Mo_draws 15 = .ok (.istore_n 3, 1) := by decide +kernel
theorem d_Mo_draws_16 : decode c_Mo_draws 16 = .ok (.iload_n 3, 1) := by decide +kernel
theorem d_Mo_draws_17 : decode c_Mo_draws 17 = .ok (.bipush 32, 2) := by decide +kernel
theorem d_Mo_draws_19 : decode c_Mo_draws 19 = .ok (.if_icmp .ge 79, 3) := by decide +kernel
theorem d_Mo_draws_22 : decode c_Mo_draws 22 = .ok (.aload_n 0, 1) := by decide +kernel
theorem d_Mo_draws_23 : decode c_Mo_draws 23 = .ok (.getfield 188, 3) := by decide +kernel
theorem d_Mo_draws_26 : decode c_Mo_draws 26 = .ok (.iload_n 2, 1) := by decide +kernel
theorem d_Mo_draws_27 : decode c_Mo_draws 27 = .ok (.irem, 1) := by decide +kernel
theorem d_Mo_draws_28 : decode c_Mo_draws 28 = .ok (.ifCond .ne 70, 3) := by decide +kernel
theorem d_Mo_draws_31 : decode c_Mo_draws 31 = .ok (.aload_n 0, 1) := by decide +kernel
theorem d_Mo_draws_32 : decode c_Mo_draws 32 = .ok (.iload_n 3, 1) := by decide +kernel
theorem d_Mo_draws_33 : decode c_Mo_draws 33 = .ok (.invokevirtual 208, 3) := by decide +kernel
theorem d_Mo_draws_36 : decode c_Mo_draws 36 = .ok (.iconst 0, 1) := by decide +kernel
theorem d_Mo_draws_37 : decode c_Mo_draws 37 = .ok (.istore 4, 2) := by decide +kernel
theorem d_Mo_draws_39 : decode c_Mo_draws 39 = .ok (.iload 4, 2) := by decide +kernel
theorem d_Mo_draws_41 : decode c_Mo_draws 41 = .ok (.bipush 32, 2) := by decide +kernel
theorem d_Mo_draws_43 : decode c_Mo_draws 43 = .ok (.if_icmp .ge 25, 3) := by decide +kernel
theorem d_Mo_draws_46 : decode c_Mo_draws 46 = .ok (.aload_n 0, 1) := by decide +kernel
theorem d_Mo_draws_47 : decode c_Mo_draws 47 = .ok (.getfield 45, 3) := by decide +kernel
theorem d_Mo_draws_50 : decode c_Mo_draws 50 = .ok (.iload_n 1, 1) := by decide +kernel
theorem d_Mo_draws_51 : decode c_Mo_draws 51 = .ok (.iload 4, 2) := by decide +kernel
theorem d_Mo_draws_53 : decode c_Mo_draws 53 = .ok (.iadd, 1) := by decide +kernel
theorem d_Mo_draws_54 : decode c_Mo_draws 54 = .ok (.aload_n 0, 1) := by decide +kernel
theorem d_Mo_draws_55 : decode c_Mo_draws 55 = .ok (.getfield 42, 3) := by decide +kernel
theorem d_Mo_draws_58 : decode c_Mo_draws 58 = .ok (.iload 4, 2) := by decide +kernel
theorem d_Mo_draws_60 : decode c_Mo_draws 60 = .ok (.iaload, 1) := by decide +kernel
theorem d_Mo_draws_61 : decode c_Mo_draws 61 = .ok (.iastore, 1) := by decide +kernel
theorem d_Mo_draws_62 : decode c_Mo_draws 62 = .ok (.iinc 4 1, 3) := by decide +kernel
theorem d_Mo_draws_65 : decode c_Mo_draws 65 = .ok (.goto (-26), 3) := by decide +kernel
theorem d_Mo_draws_68 : decode c_Mo_draws 68 = .ok (.iinc 1 32, 3) := by decide +kernel
theorem d_Mo_draws_71 : decode c_Mo_draws 71 = .ok (.aload_n 0, 1) := by decide +kernel
theorem d_Mo_draws_72 : decode c_Mo_draws 72 = .ok (.getfield 20, 3) := by decide +kernel
theorem d_Mo_draws_75 : decode c_Mo_draws 75 = .ok (.iload_n 3, 1) := by decide +kernel
theorem d_Mo_draws_76 : decode c_Mo_draws 76 = .ok (.iconst 0, 1) := by decide +kernel
theorem d_Mo_draws_77 : decode c_Mo_draws 77 = .ok (.iastore, 1) := by decide +kernel
theorem d_Mo_draws_78 : decode c_Mo_draws 78 = .ok (.iload_n 3, 1) := by decide +kernel
theorem d_Mo_draws_79 : decode c_Mo_draws 79 = .ok (.bipush 30, 2) := by decide +kernel
theorem d_Mo_draws_81 : decode c_Mo_draws 81 = .ok (.if_icmp .ge 9, 3) := by decide +kernel
theorem d_Mo_draws_84 : decode c_Mo_draws 84 = .ok (.iconst 2, 1) := by decide +kernel
theorem d_Mo_draws_85 : decode c_Mo_draws 85 = .ok (.iload_n 2, 1) := by decide +kernel
theorem d_Mo_draws_86 : decode c_Mo_draws 86 = .ok (.imul, 1) := by decide +kernel
theorem d_Mo_draws_87 : decode c_Mo_draws 87 = .ok (.goto 4, 3) := by decide +kernel
theorem d_Mo_draws_90 : decode c_Mo_draws 90 = .ok (.iload_n 2, 1) := by decide +kernel
theorem d_Mo_draws_91 : decode c_Mo_draws 91 = .ok (.istore_n 2, 1) := by decide +kernel
theorem d_Mo_draws_92 : decode c_Mo_draws 92 = .ok (.iinc 3 1, 3) := by decide +kernel
theorem d_Mo_draws_95 : decode c_Mo_draws 95 = .ok (.goto (-79), 3) := by decide +kernel
theorem d_Mo_draws_98 : decode c_Mo_draws 98 = .ok (.aload_n 0, 1) := by decide +kernel
theorem d_Mo_draws_99 : decode c_Mo_draws 99 = .ok (.iload_n 1, 1) := by decide +kernel
theorem d_Mo_draws_100 : decode c_Mo_draws 100 = .ok (.invokevirtual 211, 3) := by decide +kernel
theorem d_Mo_draws_103 : decode c_Mo_draws 103 = .ok (.aload_n 0, 1) := by decide +kernel
theorem d_Mo_draws_104 : decode c_Mo_draws 104 = .ok (.aload_n 0, 1) := by decide +kernel
theorem d_Mo_draws_105 : decode c_Mo_draws 105 = .ok (.getfield 191, 3) := by decide +kernel
theorem d_Mo_draws_108 : decode c_Mo_draws 108 = .ok (.putfield 16, 3) := by decide +kernel
theorem d_Mo_draws_111 : decode c_Mo_draws 111 = .ok (.return_, 1) := by decide +kernel
theorem d_Mo_request_0 : decode c_Mo_request 0 = .ok (.aload_n 0, 1) := by decide +kernel
theorem d_Mo_request_1 : decode c_Mo_request 1 = .ok (.iconst 0, 1) := by decide +kernel
theorem d_Mo_request_2 : decode c_Mo_request 2 = .ok (.putfield 63, 3) := by decide +kernel
theorem d_Mo_request_5 : decode c_Mo_request 5 = .ok (.iload_n 1, 1) := by decide +kernel
theorem d_Mo_request_6 : decode c_Mo_request 6 = .ok (.iconst 1, 1) := by decide +kernel
theorem d_Mo_request_7 : decode c_Mo_request 7 = .ok (.if_icmp .lt 10, 3) := by decide +kernel
theorem d_Mo_request_10 : decode c_Mo_request 10 = .ok (.iload_n 1, 1) := by decide +kernel
theorem d_Mo_request_11 : decode c_Mo_request 11 = .ok (.sipush 256, 3) := by decide +kernel
theorem d_Mo_request_14 : decode c_Mo_request 14 = .ok (.if_icmp .le 5, 3) := by decide +kernel
theorem d_Mo_request_17 : decode c_Mo_request 17 = .ok (.iconst (-1), 1) := by decide +kernel
theorem d_Mo_request_18 : decode c_Mo_request 18 = .ok (.ireturn, 1) := by decide +kernel
theorem d_Mo_request_19 : decode c_Mo_request 19 = .ok (.aload_n 0, 1) := by decide +kernel
theorem d_Mo_request_20 : decode c_Mo_request 20 = .ok (.getfield 20, 3) := by decide +kernel
theorem d_Mo_request_23 : decode c_Mo_request 23 = .ok (.iconst 0, 1) := by decide +kernel
theorem d_Mo_request_24 : decode c_Mo_request 24 = .ok (.iaload, 1) := by decide +kernel
theorem d_Mo_request_25 : decode c_Mo_request 25 = .ok (.bipush 32, 2) := by decide +kernel
theorem d_Mo_request_27 : decode c_Mo_request 27 = .ok (.if_icmp .lt 29, 3) := by decide +kernel
theorem d_Mo_request_30 : decode c_Mo_request 30 = .ok (.aload_n 0, 1) := by decide +kernel
theorem d_Mo_request_31 : decode c_Mo_request 31 = .ok (.getfield 16, 3) := by decide +kernel
theorem d_Mo_request_34 : decode c_Mo_request 34 = .ok (.iconst (-1), 1) := by decide +kernel
theorem d_Mo_request_35 : decode c_Mo_request 35 = .ok (.if_icmp .eq 17, 3) := by decide +kernel
theorem d_Mo_request_38 : decode c_Mo_request 38 = .ok (.aload_n 0, 1) := by decide +kernel
theorem d_Mo_request_39 : decode c_Mo_request 39 = .ok (.getfield 191, 3) := by decide +kernel
theorem d_Mo_request_42 : decode c_Mo_request 42 = .ok (.aload_n 0, 1) := by decide +kernel
theorem d_Mo_request_43 : decode c_Mo_request 43 = .ok (.getfield 16, 3) := by decide +kernel
theorem d_Mo_request_46 : decode c_Mo_request 46 = .ok (.isub, 1) := by decide +kernel
theorem d_Mo_request_47 : decode c_Mo_request 47 = .ok (.bipush 100, 2) := by decide +kernel
theorem d_Mo_request_49 : decode c_Mo_request 49 = .ok (.if_icmp .lt 7, 3) := by decide +kernel
theorem d_Mo_request_52 : decode c_Mo_request 52 = .ok (.aload_n 0, 1) := by decide +kernel
theorem d_Mo_request_53 : decode c_Mo_request 53 = .ok (.invokevirtual 213, 3) := by decide +kernel
theorem d_Mo_request_56 : decode c_Mo_request 56 = .ok (.aload_n 0, 1) := by decide +kernel
theorem d_Mo_request_57 : decode c_Mo_request 57 = .ok (.invokevirtual 216, 3) := by decide +kernel
theorem d_Mo_request_60 : decode c_Mo_request 60 = .ok (.ifCond .ne 6, 3) := by decide +kernel
theorem d_Mo_request_63 : decode c_Mo_request 63 = .ok (.bipush (-2), 2) := by decide +kernel
theorem d_Mo_request_65 : decode c_Mo_request 65 = .ok (.ireturn, 1) := by decide +kernel
theorem d_Mo_request_66 : decode c_Mo_request 66 = .ok (.aload_n 0, 1) := by decide +kernel
theorem d_Mo_request_67 : decode c_Mo_request 67 = .ok (.iload_n 1, 1) := by decide +kernel
theorem d_Mo_request_68 : decode c_Mo_request 68 = .ok (.invokevirtual 220, 3) := by decide +kernel
theorem d_Mo_request_71 : decode c_Mo_request 71 = .ok (.aload_n 0, 1) := by decide +kernel
theorem d_Mo_request_72 : decode c_Mo_request 72 = .ok (.iload_n 1, 1) := by decide +kernel
theorem d_Mo_request_73 : decode c_Mo_request 73 = .ok (.putfield 194, 3) := by decide +kernel
theorem d_Mo_request_76 : decode c_Mo_request 76 = .ok (.iconst 0, 1) := by decide +kernel
theorem d_Mo_request_77 : decode c_Mo_request 77 = .ok (.istore_n 2, 1) := by decide +kernel
theorem d_Mo_request_78 : decode c_Mo_request 78 = .ok (.iload_n 2, 1) := by decide +kernel
theorem d_Mo_request_79 : decode c_Mo_request 79 = .ok (.iload_n 1, 1) := by decide +kernel
theorem d_Mo_request_80 : decode c_Mo_request 80 = .ok (.if_icmp .ge 21, 3) := by decide +kernel
theorem d_Mo_request_83 : decode c_Mo_request 83 = .ok (.aload_n 0, 1) := by decide +kernel
theorem d_Mo_request_84 : decode c_Mo_request 84 = .ok (.getfield 27, 3) := by decide +kernel
theorem d_Mo_request_87 : decode c_Mo_request 87 = .ok (.iload_n 2, 1) := by decide +kernel
theorem d_Mo_request_88 : decode c_Mo_request 88 = .ok (.aload_n 0, 1) := by decide +kernel
theorem d_Mo_request_89 : decode c_Mo_request 89 = .ok (.getfield 48, 3) := by decide +kernel
theorem d_Mo_request_92 : decode c_Mo_request 92 = .ok (.iload_n 2, 1) := by decide +kernel
theorem d_Mo_request_93 : decode c_Mo_request 93 = .ok (.iaload, 1) := by decide +kernel
theorem d_Mo_request_94 : decode c_Mo_request 94 = .ok (.iastore, 1) := by decide +kernel
theorem d_Mo_request_95 : decode c_Mo_request 95 = .ok (.iinc 2 1, 3) := by decide +kernel
theorem d_Mo_request_98 : decode c_Mo_request 98 = .ok (.goto (-20), 3) := by decide +kernel
theorem d_Mo_request_101 : decode c_Mo_request 101 = .ok (.iload_n 1, 1) := by decide +kernel
theorem d_Mo_request_102 : decode c_Mo_request 102 = .ok (.ireturn, 1) := by decide +kernel
theorem d_Mo_out_0 : decode c_Mo_out 0 = .ok (.aload_n 0, 1) := by decide +kernel
theorem d_Mo_out_1 : decode c_Mo_out 1 = .ok (.iconst 0, 1) := by decide +kernel
theorem d_Mo_out_2 : decode c_Mo_out 2 = .ok (.putfield 63, 3) := by decide +kernel
theorem d_Mo_out_5 : decode c_Mo_out 5 = .ok (.iload_n 1, 1) := by decide +kernel
theorem d_Mo_out_6 : decode c_Mo_out 6 = .ok (.aload_n 0, 1) := by decide +kernel
theorem d_Mo_out_7 : decode c_Mo_out 7 = .ok (.getfield 194, 3) := by decide +kernel
theorem d_Mo_out_10 : decode c_Mo_out 10 = .ok (.invokestatic 203, 3) := by decide +kernel
theorem d_Mo_out_13 : decode c_Mo_out 13 = .ok (.ifCond .eq 12, 3) := by decide +kernel
theorem d_Mo_out_16 : decode c_Mo_out 16 = .ok (.aload_n 0, 1) := by decide +kernel
theorem d_Mo_out_17 : decode c_Mo_out 17 = .ok (.getfield 27, 3) := by decide +kernel
theorem d_Mo_out_20 : decode c_Mo_out 20 = .ok (.iload_n 1, 1) := by decide +kernel
theorem d_Mo_out_21 : decode c_Mo_out 21 = .ok (.iaload, 1) := by decide +kernel
theorem d_Mo_out_22 : decode c_Mo_out 22 = .ok (.goto 4, 3) := by decide +kernel
theorem d_Mo_out_25 : decode c_Mo_out 25 = .ok (.iconst (-1), 1) := by decide +kernel
theorem d_Mo_out_26 : decode c_Mo_out 26 = .ok (.ireturn, 1) := by decide +kernel
theorem d_Mo_writes_0 : decode c_Mo_writes 0 = .ok (.aload_n 0, 1) := by decide +kernel
theorem d_Mo_writes_1 : decode c_Mo_writes 1 = .ok (.getfield 197, 3) := by decide +kernel
theorem d_Mo_writes_4 : decode c_Mo_writes 4 = .ok (.iconst 1, 1) := by decide +kernel
theorem d_Mo_writes_5 : decode c_Mo_writes 5 = .ok (.if_icmp .ne 9, 3) := by decide +kernel
theorem d_Mo_writes_8 : decode c_Mo_writes 8 = .ok (.aload_n 0, 1) := by decide +kernel
theorem d_Mo_writes_9 : decode c_Mo_writes 9 = .ok (.invokevirtual 200, 3) := by decide +kernel
theorem d_Mo_writes_12 : decode c_Mo_writes 12 = .ok (.iconst 0, 1) := by decide +kernel
theorem d_Mo_writes_13 : decode c_Mo_writes 13 = .ok (.ireturn, 1) := by decide +kernel
theorem d_Mo_writes_14 : decode c_Mo_writes 14 = .ok (.aload_n 0, 1) := by decide +kernel
theorem d_Mo_writes_15 : decode c_Mo_writes 15 = .ok (.dup, 1) := by decide +kernel
theorem d_Mo_writes_16 : decode c_Mo_writes 16 = .ok (.getfield 197, 3) := by decide +kernel
theorem d_Mo_writes_19 : decode c_Mo_writes 19 = .ok (.aload_n 0, 1) := by decide +kernel
theorem d_Mo_writes_20 : decode c_Mo_writes 20 = .ok (.getfield 197, 3) := by decide +kernel
theorem d_Mo_writes_23 : decode c_Mo_writes 23 = .ok (.ifCond .le 7, 3) := by decide +kernel
theorem d_Mo_writes_26 : decode c_Mo_writes 26 = .ok (.iconst 1, 1) := by decide +kernel
theorem d_Mo_writes_27 : decode c_Mo_writes 27 = .ok (.goto 4, 3) := by decide +kernel
theorem d_Mo_writes_30 : decode c_Mo_writes 30 = .ok (.iconst 0, 1) := by decide +kernel
theorem d_Mo_writes_31 : decode c_Mo_writes 31 = .ok (.isub, 1) := by decide +kernel
theorem d_Mo_writes_32 : decode c_Mo_writes 32 = .ok (.putfield 197, 3) := by decide +kernel
theorem d_Mo_writes_35 : decode c_Mo_writes 35 = .ok (.aload_n 0, 1) := by decide +kernel
theorem d_Mo_writes_36 : decode c_Mo_writes 36 = .ok (.getfield 30, 3) := by decide +kernel
theorem d_Mo_writes_39 : decode c_Mo_writes 39 = .ok (.iload_n 1, 1) := by decide +kernel
theorem d_Mo_writes_40 : decode c_Mo_writes 40 = .ok (.iload_n 2, 1) := by decide +kernel
theorem d_Mo_writes_41 : decode c_Mo_writes 41 = .ok (.iastore, 1) := by decide +kernel
theorem d_Mo_writes_42 : decode c_Mo_writes 42 = .ok (.aload_n 0, 1) := by decide +kernel
theorem d_Mo_writes_43 : decode c_Mo_writes 43 = .ok (.dup, 1) := by decide +kernel
theorem d_Mo_writes_44 : decode c_Mo_writes 44 = .ok (.getfield 223, 3) := by decide +kernel
theorem d_Mo_writes_47 : decode c_Mo_writes 47 = .ok (.iconst 1, 1) := by decide +kernel
theorem d_Mo_writes_48 : decode c_Mo_writes 48 = .ok (.iadd, 1) := by decide +kernel
theorem d_Mo_writes_49 : decode c_Mo_writes 49 = .ok (.putfield 223, 3) := by decide +kernel
theorem d_Mo_writes_52 : decode c_Mo_writes 52 = .ok (.iconst 1, 1) := by decide +kernel
theorem d_Mo_writes_53 : decode c_Mo_writes 53 = .ok (.ireturn, 1) := by decide +kernel
theorem d_Mo_saves_0 : decode c_Mo_saves 0 = .ok (.aload_n 0, 1) := by decide +kernel
theorem d_Mo_saves_1 : decode c_Mo_saves 1 = .ok (.bipush 64, 2) := by decide +kernel
theorem d_Mo_saves_3 : decode c_Mo_saves 3 = .ok (.invokevirtual 220, 3) := by decide +kernel
theorem d_Mo_saves_6 : decode c_Mo_saves 6 = .ok (.aload_n 0, 1) := by decide +kernel
theorem d_Mo_saves_7 : decode c_Mo_saves 7 = .ok (.getfield 30, 3) := by decide +kernel
theorem d_Mo_saves_10 : decode c_Mo_saves 10 = .ok (.iconst 0, 1) := by decide +kernel
theorem d_Mo_saves_11 : decode c_Mo_saves 11 = .ok (.iaload, 1) := by decide +kernel
theorem d_Mo_saves_12 : decode c_Mo_saves 12 = .ok (.iconst 1, 1) := by decide +kernel
theorem d_Mo_saves_13 : decode c_Mo_saves 13 = .ok (.if_icmp .ne 8, 3) := by decide +kernel
theorem d_Mo_saves_16 : decode c_Mo_saves 16 = .ok (.bipush 65, 2) := by decide +kernel
theorem d_Mo_saves_18 : decode c_Mo_saves 18 = .ok (.goto 4, 3) := by decide +kernel
theorem d_Mo_saves_21 : decode c_Mo_saves 21 = .ok (.iconst 1, 1) := by decide +kernel
theorem d_Mo_saves_22 : decode c_Mo_saves 22 = .ok (.istore_n 1, 1) := by decide +kernel
theorem d_Mo_saves_23 : decode c_Mo_saves 23 = .ok (.iconst 0, 1) := by decide +kernel
theorem d_Mo_saves_24 : decode c_Mo_saves 24 = .ok (.istore_n 2, 1) := by decide +kernel
theorem d_Mo_saves_25 : decode c_Mo_saves 25 = .ok (.iload_n 2, 1) := by decide +kernel
theorem d_Mo_saves_26 : decode c_Mo_saves 26 = .ok (.bipush 64, 2) := by decide +kernel
theorem d_Mo_saves_28 : decode c_Mo_saves 28 = .ok (.if_icmp .ge 27, 3) := by decide +kernel
theorem d_Mo_saves_31 : decode c_Mo_saves 31 = .ok (.aload_n 0, 1) := by decide +kernel
theorem d_Mo_saves_32 : decode c_Mo_saves 32 = .ok (.iload_n 1, 1) := by decide +kernel
theorem d_Mo_saves_33 : decode c_Mo_saves 33 = .ok (.iload_n 2, 1) := by decide +kernel
theorem d_Mo_saves_34 : decode c_Mo_saves 34 = .ok (.iadd, 1) := by decide +kernel
theorem d_Mo_saves_35 : decode c_Mo_saves 35 = .ok (.aload_n 0, 1) := by decide +kernel
theorem d_Mo_saves_36 : decode c_Mo_saves 36 = .ok (.getfield 48, 3) := by decide +kernel
theorem d_Mo_saves_39 : decode c_Mo_saves 39 = .ok (.iload_n 2, 1) := by decide +kernel
theorem d_Mo_saves_40 : decode c_Mo_saves 40 = .ok (.iaload, 1) := by decide +kernel
theorem d_Mo_saves_41 : decode c_Mo_saves 41 = .ok (.invokevirtual 226, 3) := by decide +kernel
theorem d_Mo_saves_44 : decode c_Mo_saves 44 = .ok (.ifCond .ne 5, 3) := by decide +kernel
theorem d_Mo_saves_47 : decode c_Mo_saves 47 = .ok (.iconst 5, 1) := by decide +kernel
theorem d_Mo_saves_48 : decode c_Mo_saves 48 = .ok (.ireturn, 1) := by decide +kernel
theorem d_Mo_saves_49 : decode c_Mo_saves 49 = .ok (.iinc 2 1, 3) := by decide +kernel
theorem d_Mo_saves_52 : decode c_Mo_saves 52 = .ok (.goto (-27), 3) := by decide +kernel
theorem d_Mo_saves_55 : decode c_Mo_saves 55 = .ok (.aload_n 0, 1) := by decide +kernel
theorem d_Mo_saves_56 : decode c_Mo_saves 56 = .ok (.iconst 0, 1) := by decide +kernel
theorem d_Mo_saves_57 : decode c_Mo_saves 57 = .ok (.iload_n 1, 1) := by decide +kernel
theorem d_Mo_saves_58 : decode c_Mo_saves 58 = .ok (.iconst 1, 1) := by decide +kernel
theorem d_Mo_saves_59 : decode c_Mo_saves 59 = .ok (.if_icmp .ne 7, 3) := by decide +kernel
theorem d_Mo_saves_62 : decode c_Mo_saves 62 = .ok (.iconst 1, 1) := by decide +kernel
theorem d_Mo_saves_63 : decode c_Mo_saves 63 = .ok (.goto 4, 3) := by decide +kernel
theorem d_Mo_saves_66 : decode c_Mo_saves 66 = .ok (.iconst 2, 1) := by decide +kernel
theorem d_Mo_saves_67 : decode c_Mo_saves 67 = .ok (.invokevirtual 226, 3) := by decide +kernel
theorem d_Mo_saves_70 : decode c_Mo_saves 70 = .ok (.ifCond .eq 7, 3) := by decide +kernel
theorem d_Mo_saves_73 : decode c_Mo_saves 73 = .ok (.iconst 0, 1) := by decide +kernel
theorem d_Mo_saves_74 : decode c_Mo_saves 74 = .ok (.goto 4, 3) := by decide +kernel
theorem d_Mo_saves_77 : decode c_Mo_saves 77 = .ok (.iconst 5, 1) := by decide +kernel
theorem d_Mo_saves_78 : decode c_Mo_saves 78 = .ok (.ireturn, 1) := by decide +kernel
theorem d_Mo_save_0 : decode c_Mo_save 0 = .ok (.aload_n 0, 1) := by decide +kernel
theorem d_Mo_save_1 : decode c_Mo_save 1 = .ok (.iconst 0, 1) := by decide +kernel
theorem d_Mo_save_2 : decode c_Mo_save 2 = .ok (.putfield 63, 3) := by decide +kernel
theorem d_Mo_save_5 : decode c_Mo_save 5 = .ok (.aload_n 0, 1) := by decide +kernel
theorem d_Mo_save_6 : decode c_Mo_save 6 = .ok (.invokevirtual 216, 3) := by decide +kernel
theorem d_Mo_save_9 : decode c_Mo_save 9 = .ok (.ifCond .eq 10, 3) := by decide +kernel
theorem d_Mo_save_12 : decode c_Mo_save 12 = .ok (.aload_n 0, 1) := by decide +kernel
theorem d_Mo_save_13 : decode c_Mo_save 13 = .ok (.invokevirtual 228, 3) := by decide +kernel
theorem d_Mo_save_16 : decode c_Mo_save 16 = .ok (.goto 5, 3) := by decide +kernel
theorem d_Mo_save_19 : decode c_Mo_save 19 = .ok (.bipush (-2), 2) := by decide +kernel
theorem d_Mo_save_21 : decode c_Mo_save 21 = .ok (.ireturn, 1) := by decide +kernel
theorem d_Mo_load_0 : decode c_Mo_load 0 = .ok (.aload_n 0, 1) := by decide +kernel
theorem d_Mo_load_1 : decode c_Mo_load 1 = .ok (.iconst 0, 1) := by decide +kernel
theorem d_Mo_load_2 : decode c_Mo_load 2 = .ok (.putfield 63, 3) := by decide +kernel
theorem d_Mo_load_5 : decode c_Mo_load 5 = .ok (.aload_n 0, 1) := by decide +kernel
theorem d_Mo_load_6 : decode c_Mo_load 6 = .ok (.getfield 30, 3) := by decide +kernel
theorem d_Mo_load_9 : decode c_Mo_load 9 = .ok (.iconst 0, 1) := by decide +kernel
theorem d_Mo_load_10 : decode c_Mo_load 10 = .ok (.iaload, 1) := by decide +kernel
theorem d_Mo_load_11 : decode c_Mo_load 11 = .ok (.iconst 1, 1) := by decide +kernel
theorem d_Mo_load_12 : decode c_Mo_load 12 = .ok (.if_icmp .eq 15, 3) := by decide +kernel
theorem d_Mo_load_15 : decode c_Mo_load 15 = .ok (.aload_n 0, 1) := by decide +kernel
theorem d_Mo_load_16 : decode c_Mo_load 16 = .ok (.getfield 30, 3) := by decide +kernel
theorem d_Mo_load_19 : decode c_Mo_load 19 = .ok (.iconst 0, 1) := by decide +kernel
theorem d_Mo_load_20 : decode c_Mo_load 20 = .ok (.iaload, 1) := by decide +kernel
theorem d_Mo_load_21 : decode c_Mo_load 21 = .ok (.iconst 2, 1) := by decide +kernel
theorem d_Mo_load_22 : decode c_Mo_load 22 = .ok (.if_icmp .eq 5, 3) := by decide +kernel
theorem d_Mo_load_25 : decode c_Mo_load 25 = .ok (.iconst 1, 1) := by decide +kernel
theorem d_Mo_load_26 : decode c_Mo_load 26 = .ok (.ireturn, 1) := by decide +kernel
theorem d_Mo_load_27 : decode c_Mo_load 27 = .ok (.iconst 0, 1) := by decide +kernel
theorem d_Mo_load_28 : decode c_Mo_load 28 = .ok (.istore_n 1, 1) := by decide +kernel
theorem d_Mo_load_29 : decode c_Mo_load 29 = .ok (.iload_n 1, 1) := by decide +kernel
theorem d_Mo_load_30 : decode c_Mo_load 30 = .ok (.bipush 64, 2) := by decide +kernel
theorem d_Mo_load_32 : decode c_Mo_load 32 = .ok (.if_icmp .ge 34, 3) := by decide +kernel
theorem d_Mo_load_35 : decode c_Mo_load 35 = .ok (.aload_n 0, 1) := by decide +kernel
theorem d_Mo_load_36 : decode c_Mo_load 36 = .ok (.getfield 45, 3) := by decide +kernel
theorem d_Mo_load_39 : decode c_Mo_load 39 = .ok (.iload_n 1, 1) := by decide +kernel
theorem d_Mo_load_40 : decode c_Mo_load 40 = .ok (.aload_n 0, 1) := by decide +kernel
theorem d_Mo_load_41 : decode c_Mo_load 41 = .ok (.getfield 30, 3) := by decide +kernel
theorem d_Mo_load_44 : decode c_Mo_load 44 = .ok (.bipush 64, 2) := by decide +kernel
theorem d_Mo_load_46 : decode c_Mo_load 46 = .ok (.aload_n 0, 1) := by decide +kernel
theorem d_Mo_load_47 : decode c_Mo_load 47 = .ok (.getfield 30, 3) := by decide +kernel
theorem d_Mo_load_50 : decode c_Mo_load 50 = .ok (.iconst 0, 1) := by decide +kernel
theorem d_Mo_load_51 : decode c_Mo_load 51 = .ok (.iaload, 1) := by decide +kernel
theorem d_Mo_load_52 : decode c_Mo_load 52 = .ok (.imul, 1) := by decide +kernel
theorem d_Mo_load_53 : decode c_Mo_load 53 = .ok (.bipush 63, 2) := by decide +kernel
theorem d_Mo_load_55 : decode c_Mo_load 55 = .ok (.isub, 1) := by decide +kernel
theorem d_Mo_load_56 : decode c_Mo_load 56 = .ok (.iload_n 1, 1) := by decide +kernel
theorem d_Mo_load_57 : decode c_Mo_load 57 = .ok (.iadd, 1) := by decide +kernel
theorem d_Mo_load_58 : decode c_Mo_load 58 = .ok (.iaload, 1) := by decide +kernel
theorem d_Mo_load_59 : decode c_Mo_load 59 = .ok (.iastore, 1) := by decide +kernel
theorem d_Mo_load_60 : decode c_Mo_load 60 = .ok (.iinc 1 1, 3) := by decide +kernel
theorem d_Mo_load_63 : decode c_Mo_load 63 = .ok (.goto (-34), 3) := by decide +kernel
theorem d_Mo_load_66 : decode c_Mo_load 66 = .ok (.aload_n 0, 1) := by decide +kernel
theorem d_Mo_load_67 : decode c_Mo_load 67 = .ok (.bipush 64, 2) := by decide +kernel
theorem d_Mo_load_69 : decode c_Mo_load 69 = .ok (.invokevirtual 211, 3) := by decide +kernel
theorem d_Mo_load_72 : decode c_Mo_load 72 = .ok (.aload_n 0, 1) := by decide +kernel
theorem d_Mo_load_73 : decode c_Mo_load 73 = .ok (.invokevirtual 228, 3) := by decide +kernel
theorem d_Mo_load_76 : decode c_Mo_load 76 = .ok (.ireturn, 1) := by decide +kernel
theorem d_Mo_crash_0 : decode c_Mo_crash 0 = .ok (.aload_n 0, 1) := by decide +kernel
theorem d_Mo_crash_1 : decode c_Mo_crash 1 = .ok (.iconst 0, 1) := by decide +kernel
theorem d_Mo_crash_2 : decode c_Mo_crash 2 = .ok (.putfield 63, 3) := by decide +kernel
theorem d_Mo_crash_5 : decode c_Mo_crash 5 = .ok (.aload_n 0, 1) := by decide +kernel
theorem d_Mo_crash_6 : decode c_Mo_crash 6 = .ok (.iload_n 1, 1) := by decide +kernel
theorem d_Mo_crash_7 : decode c_Mo_crash 7 = .ok (.iconst 1, 1) := by decide +kernel
theorem d_Mo_crash_8 : decode c_Mo_crash 8 = .ok (.if_icmp .ge 7, 3) := by decide +kernel
theorem d_Mo_crash_11 : decode c_Mo_crash 11 = .ok (.iconst 0, 1) := by decide +kernel
theorem d_Mo_crash_12 : decode c_Mo_crash 12 = .ok (.goto 4, 3) := by decide +kernel
theorem d_Mo_crash_15 : decode c_Mo_crash 15 = .ok (.iload_n 1, 1) := by decide +kernel
theorem d_Mo_crash_16 : decode c_Mo_crash 16 = .ok (.putfield 197, 3) := by decide +kernel
theorem d_Mo_crash_19 : decode c_Mo_crash 19 = .ok (.return_, 1) := by decide +kernel
theorem d_Mo_byteOf_0 : decode c_Mo_byteOf 0 = .ok (.aload_n 0, 1) := by decide +kernel
theorem d_Mo_byteOf_1 : decode c_Mo_byteOf 1 = .ok (.iconst 0, 1) := by decide +kernel
theorem d_Mo_byteOf_2 : decode c_Mo_byteOf 2 = .ok (.putfield 63, 3) := by decide +kernel
theorem d_Mo_byteOf_5 : decode c_Mo_byteOf 5 = .ok (.iload_n 1, 1) := by decide +kernel
theorem d_Mo_byteOf_6 : decode c_Mo_byteOf 6 = .ok (.iconst 2, 1) := by decide +kernel
theorem d_Mo_byteOf_7 : decode c_Mo_byteOf 7 = .ok (.if_icmp .ne 24, 3) := by decide +kernel
theorem d_Mo_byteOf_10 : decode c_Mo_byteOf 10 = .ok (.iload_n 2, 1) := by decide +kernel
theorem d_Mo_byteOf_11 : decode c_Mo_byteOf 11 = .ok (.sipush 129, 3) := by decide +kernel
theorem d_Mo_byteOf_14 : decode c_Mo_byteOf 14 = .ok (.invokestatic 203, 3) := by decide +kernel
theorem d_Mo_byteOf_17 : decode c_Mo_byteOf 17 = .ok (.ifCond .eq 12, 3) := by decide +kernel
theorem d_Mo_byteOf_20 : decode c_Mo_byteOf 20 = .ok (.aload_n 0, 1) := by decide +kernel
theorem d_Mo_byteOf_21 : decode c_Mo_byteOf 21 = .ok (.getfield 30, 3) := by decide +kernel
theorem d_Mo_byteOf_24 : decode c_Mo_byteOf 24 = .ok (.iload_n 2, 1) := by decide +kernel
theorem d_Mo_byteOf_25 : decode c_Mo_byteOf 25 = .ok (.iaload, 1) := by decide +kernel
theorem d_Mo_byteOf_26 : decode c_Mo_byteOf 26 = .ok (.goto 4, 3) := by decide +kernel
theorem d_Mo_byteOf_29 : decode c_Mo_byteOf 29 = .ok (.iconst (-1), 1) := by decide +kernel
theorem d_Mo_byteOf_30 : decode c_Mo_byteOf 30 = .ok (.ireturn, 1) := by decide +kernel
theorem d_Mo_byteOf_31 : decode c_Mo_byteOf 31 = .ok (.iload_n 1, 1) := by decide +kernel
theorem d_Mo_byteOf_32 : decode c_Mo_byteOf 32 = .ok (.ifCond .lt 29, 3) := by decide +kernel
theorem d_Mo_byteOf_35 : decode c_Mo_byteOf 35 = .ok (.iload_n 1, 1) := by decide +kernel
theorem d_Mo_byteOf_36 : decode c_Mo_byteOf 36 = .ok (.bipush 34, 2) := by decide +kernel
theorem d_Mo_byteOf_38 : decode c_Mo_byteOf 38 = .ok (.if_icmp .gt 23, 3) := by decide +kernel
theorem d_Mo_byteOf_41 : decode c_Mo_byteOf 41 = .ok (.iload_n 2, 1) := by decide +kernel
theorem d_Mo_byteOf_42 : decode c_Mo_byteOf 42 = .ok (.ifCond .lt 19, 3) := by decide +kernel
theorem d_Mo_byteOf_45 : decode c_Mo_byteOf 45 = .ok (.iload_n 2, 1) := by decide +kernel
theorem d_Mo_byteOf_46 : decode c_Mo_byteOf 46 = .ok (.iload_n 1, 1) := by decide +kernel
theorem d_Mo_byteOf_47 : decode c_Mo_byteOf 47 = .ok (.iconst 2, 1) := by decide +kernel
theorem d_Mo_byteOf_48 : decode c_Mo_byteOf 48 = .ok (.if_icmp .ge 8, 3) := by decide +kernel
theorem d_Mo_byteOf_51 : decode c_Mo_byteOf 51 = .ok (.bipush 16, 2) := by decide +kernel
theorem d_Mo_byteOf_53 : decode c_Mo_byteOf 53 = .ok (.goto 5, 3) := by decide +kernel
theorem d_Mo_byteOf_56 : decode c_Mo_byteOf 56 = .ok (.bipush 32, 2) := by decide +kernel
theorem d_Mo_byteOf_58 : decode c_Mo_byteOf 58 = .ok (.if_icmp .lt 5, 3) := by decide +kernel
theorem d_Mo_byteOf_61 : decode c_Mo_byteOf 61 = .ok (.iconst (-1), 1) := by decide +kernel
theorem d_Mo_byteOf_62 : decode c_Mo_byteOf 62 = .ok (.ireturn, 1) := by decide +kernel
theorem d_Mo_byteOf_63 : decode c_Mo_byteOf 63 = .ok (.iload_n 1, 1) := by decide +kernel
theorem d_Mo_byteOf_64 : decode c_Mo_byteOf 64 = .ok (.iconst 2, 1) := by decide +kernel
theorem d_Mo_byteOf_65 : decode c_Mo_byteOf 65 = .ok (.if_icmp .le 10, 3) := by decide +kernel
theorem d_Mo_byteOf_68 : decode c_Mo_byteOf 68 = .ok (.aload_n 0, 1) := by decide +kernel
theorem d_Mo_byteOf_69 : decode c_Mo_byteOf 69 = .ok (.iload_n 1, 1) := by decide +kernel
theorem d_Mo_byteOf_70 : decode c_Mo_byteOf 70 = .ok (.iconst 3, 1) := by decide +kernel
theorem d_Mo_byteOf_71 : decode c_Mo_byteOf 71 = .ok (.isub, 1) := by decide +kernel
theorem d_Mo_byteOf_72 : decode c_Mo_byteOf 72 = .ok (.invokevirtual 208, 3) := by decide +kernel
theorem d_Mo_byteOf_75 : decode c_Mo_byteOf 75 = .ok (.iload_n 1, 1) := by decide +kernel
theorem d_Mo_byteOf_76 : decode c_Mo_byteOf 76 = .ok (.ifCond .ne 12, 3) := by decide +kernel
theorem d_Mo_byteOf_79 : decode c_Mo_byteOf 79 = .ok (.aload_n 0, 1) := by decide +kernel
theorem d_Mo_byteOf_80 : decode c_Mo_byteOf 80 = .ok (.getfield 7, 3) := by decide +kernel
theorem d_Mo_byteOf_83 : decode c_Mo_byteOf 83 = .ok (.iload_n 2, 1) := by decide +kernel
theorem d_Mo_byteOf_84 : decode c_Mo_byteOf 84 = .ok (.iaload, 1) := by decide +kernel
theorem d_Mo_byteOf_85 : decode c_Mo_byteOf 85 = .ok (.goto 23, 3) := by decide +kernel
theorem d_Mo_byteOf_88 : decode c_Mo_byteOf 88 = .ok (.iload_n 1, 1) := by decide +kernel
theorem d_Mo_byteOf_89 : decode c_Mo_byteOf 89 = .ok (.iconst 1, 1) := by decide +kernel
theorem d_Mo_byteOf_90 : decode c_Mo_byteOf 90 = .ok (.if_icmp .ne 12, 3) := by decide +kernel
theorem d_Mo_byteOf_93 : decode c_Mo_byteOf 93 = .ok (.aload_n 0, 1) := by decide +kernel
theorem d_Mo_byteOf_94 : decode c_Mo_byteOf 94 = .ok (.getfield 13, 3) := by decide +kernel
theorem d_Mo_byteOf_97 : decode c_Mo_byteOf 97 = .ok (.iload_n 2, 1) := by decide +kernel
theorem d_Mo_byteOf_98 : decode c_Mo_byteOf 98 = .ok (.iaload, 1) := by decide +kernel
theorem d_Mo_byteOf_99 : decode c_Mo_byteOf 99 = .ok (.goto 9, 3) := by decide +kernel
theorem d_Mo_byteOf_102 : decode c_Mo_byteOf 102 = .ok (.aload_n 0, 1) := by decide +kernel
theorem d_Mo_byteOf_103 : decode c_Mo_byteOf 103 = .ok (.getfield 42, 3) := by decide +kernel
theorem d_Mo_byteOf_106 : decode c_Mo_byteOf 106 = .ok (.iload_n 2, 1) := by decide +kernel
theorem d_Mo_byteOf_107 : decode c_Mo_byteOf 107 = .ok (.iaload, 1) := by decide +kernel
theorem d_Mo_byteOf_108 : decode c_Mo_byteOf 108 = .ok (.ireturn, 1) := by decide +kernel
theorem d_Mo_spoil_0 : decode c_Mo_spoil 0 = .ok (.aload_n 0, 1) := by decide +kernel
theorem d_Mo_spoil_1 : decode c_Mo_spoil 1 = .ok (.iconst 0, 1) := by decide +kernel
theorem d_Mo_spoil_2 : decode c_Mo_spoil 2 = .ok (.putfield 63, 3) := by decide +kernel
theorem d_Mo_spoil_5 : decode c_Mo_spoil 5 = .ok (.iload_n 1, 1) := by decide +kernel
theorem d_Mo_spoil_6 : decode c_Mo_spoil 6 = .ok (.sipush 129, 3) := by decide +kernel
theorem d_Mo_spoil_9 : decode c_Mo_spoil 9 = .ok (.invokestatic 203, 3) := by decide +kernel
theorem d_Mo_spoil_12 : decode c_Mo_spoil 12 = .ok (.ifCond .eq 13, 3) := by decide +kernel
theorem d_Mo_spoil_15 : decode c_Mo_spoil 15 = .ok (.iload_n 2, 1) := by decide +kernel
theorem d_Mo_spoil_16 : decode c_Mo_spoil 16 = .ok (.sipush 256, 3) := by decide +kernel
theorem d_Mo_spoil_19 : decode c_Mo_spoil 19 = .ok (.invokestatic 203, 3) := by decide +kernel
theorem d_Mo_spoil_22 : decode c_Mo_spoil 22 = .ok (.ifCond .ne 5, 3) := by decide +kernel
theorem d_Mo_spoil_25 : decode c_Mo_spoil 25 = .ok (.iconst 0, 1) := by decide +kernel
theorem d_Mo_spoil_26 : decode c_Mo_spoil 26 = .ok (.ireturn, 1) := by decide +kernel
theorem d_Mo_spoil_27 : decode c_Mo_spoil 27 = .ok (.aload_n 0, 1) := by decide +kernel
theorem d_Mo_spoil_28 : decode c_Mo_spoil 28 = .ok (.getfield 30, 3) := by decide +kernel
theorem d_Mo_spoil_31 : decode c_Mo_spoil 31 = .ok (.iload_n 1, 1) := by decide +kernel
theorem d_Mo_spoil_32 : decode c_Mo_spoil 32 = .ok (.iload_n 2, 1) := by decide +kernel
theorem d_Mo_spoil_33 : decode c_Mo_spoil 33 = .ok (.iastore, 1) := by decide +kernel
theorem d_Mo_spoil_34 : decode c_Mo_spoil 34 = .ok (.iconst 1, 1) := by decide +kernel
theorem d_Mo_spoil_35 : decode c_Mo_spoil 35 = .ok (.ireturn, 1) := by decide +kernel
theorem d_Mo_about_0 : decode c_Mo_about 0 = .ok (.aload_n 0, 1) := by decide +kernel
theorem d_Mo_about_1 : decode c_Mo_about 1 = .ok (.iconst 0, 1) := by decide +kernel
theorem d_Mo_about_2 : decode c_Mo_about 2 = .ok (.putfield 63, 3) := by decide +kernel
theorem d_Mo_about_5 : decode c_Mo_about 5 = .ok (.iload_n 1, 1) := by decide +kernel
theorem d_Mo_about_6 : decode c_Mo_about 6 = .ok (.tableswitch 76 0 5 #[38, 43, 48, 53, 58, 63], 38) := by decide +kernel
theorem d_Mo_about_44 : decode c_Mo_about 44 = .ok (.aload_n 0, 1) := by decide +kernel
theorem d_Mo_about_45 : decode c_Mo_about 45 = .ok (.getfield 188, 3) := by decide +kernel
theorem d_Mo_about_48 : decode c_Mo_about 48 = .ok (.ireturn, 1) := by decide +kernel
theorem d_Mo_about_49 : decode c_Mo_about 49 = .ok (.aload_n 0, 1) := by decide +kernel
theorem d_Mo_about_50 : decode c_Mo_about 50 = .ok (.getfield 191, 3) := by decide +kernel
theorem d_Mo_about_53 : decode c_Mo_about 53 = .ok (.ireturn, 1) := by decide +kernel
theorem d_Mo_about_54 : decode c_Mo_about 54 = .ok (.aload_n 0, 1) := by decide +kernel
theorem d_Mo_about_55 : decode c_Mo_about 55 = .ok (.getfield 16, 3) := by decide +kernel
theorem d_Mo_about_58 : decode c_Mo_about 58 = .ok (.ireturn, 1) := by decide +kernel
theorem d_Mo_about_59 : decode c_Mo_about 59 = .ok (.aload_n 0, 1) := by decide +kernel
theorem d_Mo_about_60 : decode c_Mo_about 60 = .ok (.getfield 197, 3) := by decide +kernel
theorem d_Mo_about_63 : decode c_Mo_about 63 = .ok (.ireturn, 1) := by decide +kernel
theorem d_Mo_about_64 : decode c_Mo_about 64 = .ok (.aload_n 0, 1) := by decide +kernel
theorem d_Mo_about_65 : decode c_Mo_about 65 = .ok (.getfield 223, 3) := by decide +kernel
theorem d_Mo_about_68 : decode c_Mo_about 68 = .ok (.ireturn, 1) := by decide +kernel
theorem d_Mo_about_69 : decode c_Mo_about 69 = .ok (.aload_n 0, 1) := by decide +kernel
theorem d_Mo_about_70 : decode c_Mo_about 70 = .ok (.invokevirtual 216, 3) := by decide +kernel
theorem d_Mo_about_73 : decode c_Mo_about 73 = .ok (.ifCond .eq 7, 3) := by decide +kernel
theorem d_Mo_about_76 : decode c_Mo_about 76 = .ok (.iconst 1, 1) := by decide +kernel
theorem d_Mo_about_77 : decode c_Mo_about 77 = .ok (.goto 4, 3) := by decide +kernel
theorem d_Mo_about_80 : decode c_Mo_about 80 = .ok (.iconst 0, 1) := by decide +kernel
theorem d_Mo_about_81 : decode c_Mo_about 81 = .ok (.ireturn, 1) := by decide +kernel
theorem d_Mo_about_82 : decode c_Mo_about 82 = .ok (.iload_n 1, 1) := by decide +kernel
theorem d_Mo_about_83 : decode c_Mo_about 83 = .ok (.bipush 6, 2) := by decide +kernel
theorem d_Mo_about_85 : decode c_Mo_about 85 = .ok (.if_icmp .lt 9, 3) := by decide +kernel
theorem d_Mo_about_88 : decode c_Mo_about 88 = .ok (.iload_n 1, 1) := by decide +kernel
theorem d_Mo_about_89 : decode c_Mo_about 89 = .ok (.bipush 37, 2) := by decide +kernel
theorem d_Mo_about_91 : decode c_Mo_about 91 = .ok (.if_icmp .le 7, 3) := by decide +kernel
theorem d_Mo_about_94 : decode c_Mo_about 94 = .ok (.iconst (-1), 1) := by decide +kernel
theorem d_Mo_about_95 : decode c_Mo_about 95 = .ok (.goto 12, 3) := by decide +kernel
theorem d_Mo_about_98 : decode c_Mo_about 98 = .ok (.aload_n 0, 1) := by decide +kernel
theorem d_Mo_about_99 : decode c_Mo_about 99 = .ok (.getfield 20, 3) := by decide +kernel
theorem d_Mo_about_102 : decode c_Mo_about 102 = .ok (.iload_n 1, 1) := by decide +kernel
theorem d_Mo_about_103 : decode c_Mo_about 103 = .ok (.bipush 6, 2) := by decide +kernel
theorem d_Mo_about_105 : decode c_Mo_about 105 = .ok (.isub, 1) := by decide +kernel
theorem d_Mo_about_106 : decode c_Mo_about 106 = .ok (.iaload, 1) := by decide +kernel
theorem d_Mo_about_107 : decode c_Mo_about 107 = .ok (.ireturn, 1) := by decide +kernel
theorem d_In_rotateRight_0 : decode c_In_rotateRight 0 = .ok (.iload_n 0, 1) := by decide +kernel
theorem d_In_rotateRight_1 : decode c_In_rotateRight 1 = .ok (.iload_n 1, 1) := by decide +kernel
theorem d_In_rotateRight_2 : decode c_In_rotateRight 2 = .ok (.iushr, 1) := by decide +kernel
theorem d_In_rotateRight_3 : decode c_In_rotateRight 3 = .ok (.iload_n 0, 1) := by decide +kernel
theorem d_In_rotateRight_4 : decode c_In_rotateRight 4 = .ok (.iload_n 1, 1) := by decide +kernel
theorem d_In_rotateRight_5 : decode c_In_rotateRight 5 = .ok (.ineg, 1) := by decide +kernel
theorem d_In_rotateRight_6 : decode c_In_rotateRight 6 = .ok (.ishl, 1) := by decide +kernel
theorem d_In_rotateRight_7 : decode c_In_rotateRight 7 = .ok (.ior, 1) := by decide +kernel
theorem d_In_rotateRight_8 : decode c_In_rotateRight 8 = .ok (.ireturn, 1) := by decide +kernel
theorem d_La_law_0 : decode c_La_law 0 = .ok (.new 7, 3) := by decide +kernel
theorem d_La_law_3 : decode c_La_law 3 = .ok (.dup, 1) := by decide +kernel
theorem d_La_law_4 : decode c_La_law 4 = .ok (.invokespecial 9, 3) := by decide +kernel
theorem d_La_law_7 : decode c_La_law 7 = .ok (.astore_n 1, 1) := by decide +kernel
theorem d_La_law_8 : decode c_La_law 8 = .ok (.new 10, 3) := by decide +kernel
theorem d_La_law_11 : decode c_La_law 11 = .ok (.dup, 1) := by decide +kernel
theorem d_La_law_12 : decode c_La_law 12 = .ok (.invokespecial 12, 3) := by decide +kernel
theorem d_La_law_15 : decode c_La_law 15 = .ok (.astore_n 2, 1) := by decide +kernel
theorem d_La_law_16 : decode c_La_law 16 = .ok (.iconst 0, 1) := by decide +kernel
theorem d_La_law_17 : decode c_La_law 17 = .ok (.istore_n 3, 1) := by decide +kernel
theorem d_La_law_18 : decode c_La_law 18 = .ok (.iload_n 3, 1) := by decide +kernel
theorem d_La_law_19 : decode c_La_law 19 = .ok (.aload_n 0, 1) := by decide +kernel
theorem d_La_law_20 : decode c_La_law 20 = .ok (.arraylength, 1) := by decide +kernel
theorem d_La_law_21 : decode c_La_law 21 = .ok (.iconst 4, 1) := by decide +kernel
theorem d_La_law_22 : decode c_La_law 22 = .ok (.isub, 1) := by decide +kernel
theorem d_La_law_23 : decode c_La_law 23 = .ok (.if_icmp .gt 334, 3) := by decide +kernel
theorem d_La_law_26 : decode c_La_law 26 = .ok (.aload_n 0, 1) := by decide +kernel
theorem d_La_law_27 : decode c_La_law 27 = .ok (.iload_n 3, 1) := by decide +kernel
theorem d_La_law_28 : decode c_La_law 28 = .ok (.iaload, 1) := by decide +kernel
theorem d_La_law_29 : decode c_La_law 29 = .ok (.bipush 15, 2) := by decide +kernel
theorem d_La_law_31 : decode c_La_law 31 = .ok (.iand, 1) := by decide +kernel
theorem d_La_law_32 : decode c_La_law 32 = .ok (.tableswitch 319 0 10 #[60, 71, 114, 137, 160, 183, 196, 209, 230, 263, 296], 60) := by decide +kernel
theorem d_La_law_92 : decode c_La_law 92 = .ok (.aload_n 1, 1) := by decide +kernel
theorem d_La_law_93 : decode c_La_law 93 = .ok (.invokevirtual 13, 3) := by decide +kernel
theorem d_La_law_96 : decode c_La_law 96 = .ok (.aload_n 2, 1) := by decide +kernel
theorem d_La_law_97 : decode c_La_law 97 = .ok (.invokevirtual 16, 3) := by decide +kernel
theorem d_La_law_100 : decode c_La_law 100 = .ok (.goto 251, 3) := by decide +kernel
theorem d_La_law_103 : decode c_La_law 103 = .ok (.aload_n 1, 1) := by decide +kernel
theorem d_La_law_104 : decode c_La_law 104 = .ok (.aload_n 0, 1) := by decide +kernel
theorem d_La_law_105 : decode c_La_law 105 = .ok (.iload_n 3, 1) := by decide +kernel
theorem d_La_law_106 : decode c_La_law 106 = .ok (.iconst 1, 1) := by decide +kernel
theorem d_La_law_107 : decode c_La_law 107 = .ok (.iadd, 1) := by decide +kernel
theorem d_La_law_108 : decode c_La_law 108 = .ok (.iaload, 1) := by decide +kernel
theorem d_La_law_109 : decode c_La_law 109 = .ok (.aload_n 0, 1) := by decide +kernel
theorem d_La_law_110 : decode c_La_law 110 = .ok (.iload_n 3, 1) := by decide +kernel
theorem d_La_law_111 : decode c_La_law 111 = .ok (.iconst 2, 1) := by decide +kernel
theorem d_La_law_112 : decode c_La_law 112 = .ok (.iadd, 1) := by decide +kernel
theorem d_La_law_113 : decode c_La_law 113 = .ok (.iaload, 1) := by decide +kernel
theorem d_La_law_114 : decode c_La_law 114 = .ok (.aload_n 0, 1) := by decide +kernel
theorem d_La_law_115 : decode c_La_law 115 = .ok (.iload_n 3, 1) := by decide +kernel
theorem d_La_law_116 : decode c_La_law 116 = .ok (.iconst 3, 1) := by decide +kernel
theorem d_La_law_117 : decode c_La_law 117 = .ok (.iadd, 1) := by decide +kernel
theorem d_La_law_118 : decode c_La_law 118 = .ok (.iaload, 1) := by decide +kernel
theorem d_La_law_119 : decode c_La_law 119 = .ok (.invokevirtual 17, 3) := by decide +kernel
theorem d_La_law_122 : decode c_La_law 122 = .ok (.aload_n 2, 1) := by decide +kernel
theorem d_La_law_123 : decode c_La_law 123 = .ok (.aload_n 0, 1) := by decide +kernel
theorem d_La_law_124 : decode c_La_law 124 = .ok (.iload_n 3, 1) := by decide +kernel
theorem d_La_law_125 : decode c_La_law 125 = .ok (.iconst 1, 1) := by decide +kernel
theorem d_La_law_126 : decode c_La_law 126 = .ok (.iadd, 1) := by decide +kernel
theorem d_La_law_127 : decode c_La_law 127 = .ok (.iaload, 1) := by decide +kernel
theorem d_La_law_128 : decode c_La_law 128 = .ok (.aload_n 0, 1) := by decide +kernel
theorem d_La_law_129 : decode c_La_law 129 = .ok (.iload_n 3, 1) := by decide +kernel
theorem d_La_law_130 : decode c_La_law 130 = .ok (.iconst 2, 1) := by decide +kernel
theorem d_La_law_131 : decode c_La_law 131 = .ok (.iadd, 1) := by decide +kernel
theorem d_La_law_132 : decode c_La_law 132 = .ok (.iaload, 1) := by decide +kernel
theorem d_La_law_133 : decode c_La_law 133 = .ok (.aload_n 0, 1) := by decide +kernel
theorem d_La_law_134 : decode c_La_law 134 = .ok (.iload_n 3, 1) := by decide +kernel
theorem d_La_law_135 : decode c_La_law 135 = .ok (.iconst 3, 1) := by decide +kernel
theorem d_La_law_136 : decode c_La_law 136 = .ok (.iadd, 1) := by decide +kernel
theorem d_La_law_137 : decode c_La_law 137 = .ok (.iaload, 1) := by decide +kernel
theorem d_La_law_138 : decode c_La_law 138 = .ok (.invokevirtual 21, 3) := by decide +kernel
theorem d_La_law_141 : decode c_La_law 141 = .ok (.if_icmp .eq 210, 3) := by decide +kernel
theorem d_La_law_144 : decode c_La_law 144 = .ok (.iconst 0, 1) := by decide +kernel
theorem d_La_law_145 : decode c_La_law 145 = .ok (.ireturn, 1) := by decide +kernel
theorem d_La_law_146 : decode c_La_law 146 = .ok (.aload_n 1, 1) := by decide +kernel
theorem d_La_law_147 : decode c_La_law 147 = .ok (.aload_n 0, 1) := by decide +kernel
theorem d_La_law_148 : decode c_La_law 148 = .ok (.iload_n 3, 1) := by decide +kernel
theorem d_La_law_149 : decode c_La_law 149 = .ok (.iconst 1, 1) := by decide +kernel
theorem d_La_law_150 : decode c_La_law 150 = .ok (.iadd, 1) := by decide +kernel
theorem d_La_law_151 : decode c_La_law 151 = .ok (.iaload, 1) := by decide +kernel
theorem d_La_law_152 : decode c_La_law 152 = .ok (.invokevirtual 22, 3) := by decide +kernel
theorem d_La_law_155 : decode c_La_law 155 = .ok (.aload_n 2, 1) := by decide +kernel
theorem d_La_law_156 : decode c_La_law 156 = .ok (.aload_n 0, 1) := by decide +kernel
theorem d_La_law_157 : decode c_La_law 157 = .ok (.iload_n 3, 1) := by decide +kernel
theorem d_La_law_158 : decode c_La_law 158 = .ok (.iconst 1, 1) := by decide +kernel
theorem d_La_law_159 : decode c_La_law 159 = .ok (.iadd, 1) := by decide +kernel
theorem d_La_law_160 : decode c_La_law 160 = .ok (.iaload, 1) := by decide +kernel
theorem d_La_law_161 : decode c_La_law 161 = .ok (.invokevirtual 26, 3) := by decide +kernel
theorem d_La_law_164 : decode c_La_law 164 = .ok (.if_icmp .eq 187, 3) := by decide +kernel
theorem d_La_law_167 : decode c_La_law 167 = .ok (.iconst 0, 1) := by decide +kernel
theorem d_La_law_168 : decode c_La_law 168 = .ok (.ireturn, 1) := by decide +kernel
theorem d_La_law_169 : decode c_La_law 169 = .ok (.aload_n 1, 1) := by decide +kernel
theorem d_La_law_170 : decode c_La_law 170 = .ok (.aload_n 0, 1) := by decide +kernel
theorem d_La_law_171 : decode c_La_law 171 = .ok (.iload_n 3, 1) := by decide +kernel
theorem d_La_law_172 : decode c_La_law 172 = .ok (.iconst 1, 1) := by decide +kernel
theorem d_La_law_173 : decode c_La_law 173 = .ok (.iadd, 1) := by decide +kernel
theorem d_La_law_174 : decode c_La_law 174 = .ok (.iaload, 1) := by decide +kernel
theorem d_La_law_175 : decode c_La_law 175 = .ok (.invokevirtual 27, 3) := by decide +kernel
theorem d_La_law_178 : decode c_La_law 178 = .ok (.aload_n 2, 1) := by decide +kernel
theorem d_La_law_179 : decode c_La_law 179 = .ok (.aload_n 0, 1) := by decide +kernel
theorem d_La_law_180 : decode c_La_law 180 = .ok (.iload_n 3, 1) := by decide +kernel
theorem d_La_law_181 : decode c_La_law 181 = .ok (.iconst 1, 1) := by decide +kernel
theorem d_La_law_182 : decode c_La_law 182 = .ok (.iadd, 1) := by decide +kernel
theorem d_La_law_183 : decode c_La_law 183 = .ok (.iaload, 1) := by decide +kernel
theorem d_La_law_184 : decode c_La_law 184 = .ok (.invokevirtual 30, 3) := by decide +kernel
theorem d_La_law_187 : decode c_La_law 187 = .ok (.if_icmp .eq 164, 3) := by decide +kernel
theorem d_La_law_190 : decode c_La_law 190 = .ok (.iconst 0, 1) := by decide +kernel
theorem d_La_law_191 : decode c_La_law 191 = .ok (.ireturn, 1) := by decide +kernel
theorem d_La_law_192 : decode c_La_law 192 = .ok (.aload_n 1, 1) := by decide +kernel
theorem d_La_law_193 : decode c_La_law 193 = .ok (.aload_n 0, 1) := by decide +kernel
theorem d_La_law_194 : decode c_La_law 194 = .ok (.iload_n 3, 1) := by decide +kernel
theorem d_La_law_195 : decode c_La_law 195 = .ok (.iconst 1, 1) := by decide +kernel
theorem d_La_law_196 : decode c_La_law 196 = .ok (.iadd, 1) := by decide +kernel
theorem d_La_law_197 : decode c_La_law 197 = .ok (.iaload, 1) := by decide +kernel
theorem d_La_law_198 : decode c_La_law 198 = .ok (.invokevirtual 31, 3) := by decide +kernel
theorem d_La_law_201 : decode c_La_law 201 = .ok (.aload_n 2, 1) := by decide +kernel
theorem d_La_law_202 : decode c_La_law 202 = .ok (.aload_n 0, 1) := by decide +kernel
theorem d_La_law_203 : decode c_La_law 203 = .ok (.iload_n 3, 1) := by decide +kernel
theorem d_La_law_204 : decode c_La_law 204 = .ok (.iconst 1, 1) := by decide +kernel
theorem d_La_law_205 : decode c_La_law 205 = .ok (.iadd, 1) := by decide +kernel
theorem d_La_law_206 : decode c_La_law 206 = .ok (.iaload, 1) := by decide +kernel
theorem d_La_law_207 : decode c_La_law 207 = .ok (.invokevirtual 34, 3) := by decide +kernel
theorem d_La_law_210 : decode c_La_law 210 = .ok (.if_icmp .eq 141, 3) := by decide +kernel
theorem d_La_law_213 : decode c_La_law 213 = .ok (.iconst 0, 1) := by decide +kernel
theorem d_La_law_214 : decode c_La_law 214 = .ok (.ireturn, 1) := by decide +kernel
theorem d_La_law_215 : decode c_La_law 215 = .ok (.aload_n 1, 1) := by decide +kernel
theorem d_La_law_216 : decode c_La_law 216 = .ok (.invokevirtual 35, 3) := by decide +kernel
theorem d_La_law_219 : decode c_La_law 219 = .ok (.aload_n 2, 1) := by decide +kernel
theorem d_La_law_220 : decode c_La_law 220 = .ok (.invokevirtual 39, 3) := by decide +kernel
theorem d_La_law_223 : decode c_La_law 223 = .ok (.if_icmp .eq 128, 3) := by decide +kernel
theorem d_La_law_226 : decode c_La_law 226 = .ok (.iconst 0, 1) := by decide +kernel
theorem d_La_law_227 : decode c_La_law 227 = .ok (.ireturn, 1) := by decide +kernel
theorem d_La_law_228 : decode c_La_law 228 = .ok (.aload_n 1, 1) := by decide +kernel
theorem d_La_law_229 : decode c_La_law 229 = .ok (.invokevirtual 40, 3) := by decide +kernel
theorem d_La_law_232 : decode c_La_law 232 = .ok (.aload_n 2, 1) := by decide +kernel
theorem d_La_law_233 : decode c_La_law 233 = .ok (.invokevirtual 43, 3) := by decide +kernel
theorem d_La_law_236 : decode c_La_law 236 = .ok (.if_icmp .eq 115, 3) := by decide +kernel
theorem d_La_law_239 : decode c_La_law 239 = .ok (.iconst 0, 1) := by decide +kernel
theorem d_La_law_240 : decode c_La_law 240 = .ok (.ireturn, 1) := by decide +kernel
theorem d_La_law_241 : decode c_La_law 241 = .ok (.aload_n 1, 1) := by decide +kernel
theorem d_La_law_242 : decode c_La_law 242 = .ok (.aload_n 0, 1) := by decide +kernel
theorem d_La_law_243 : decode c_La_law 243 = .ok (.iload_n 3, 1) := by decide +kernel
theorem d_La_law_244 : decode c_La_law 244 = .ok (.iconst 1, 1) := by decide +kernel
theorem d_La_law_245 : decode c_La_law 245 = .ok (.iadd, 1) := by decide +kernel
theorem d_La_law_246 : decode c_La_law 246 = .ok (.iaload, 1) := by decide +kernel
theorem d_La_law_247 : decode c_La_law 247 = .ok (.invokevirtual 44, 3) := by decide +kernel
theorem d_La_law_250 : decode c_La_law 250 = .ok (.aload_n 2, 1) := by decide +kernel
theorem d_La_law_251 : decode c_La_law 251 = .ok (.aload_n 0, 1) := by decide +kernel
theorem d_La_law_252 : decode c_La_law 252 = .ok (.iload_n 3, 1) := by decide +kernel
theorem d_La_law_253 : decode c_La_law 253 = .ok (.iconst 1, 1) := by decide +kernel
theorem d_La_law_254 : decode c_La_law 254 = .ok (.iadd, 1) := by decide +kernel
theorem d_La_law_255 : decode c_La_law 255 = .ok (.iaload, 1) := by decide +kernel
theorem d_La_law_256 : decode c_La_law 256 = .ok (.invokevirtual 48, 3) := by decide +kernel
theorem d_La_law_259 : decode c_La_law 259 = .ok (.goto 92, 3) := by decide +kernel
theorem d_La_law_262 : decode c_La_law 262 = .ok (.aload_n 1, 1) := by decide +kernel
theorem d_La_law_263 : decode c_La_law 263 = .ok (.aload_n 0, 1) := by decide +kernel
theorem d_La_law_264 : decode c_La_law 264 = .ok (.iload_n 3, 1) := by decide +kernel
theorem d_La_law_265 : decode c_La_law 265 = .ok (.iconst 1, 1) := by decide +kernel
theorem d_La_law_266 : decode c_La_law 266 = .ok (.iadd, 1) := by decide +kernel
theorem d_La_law_267 : decode c_La_law 267 = .ok (.iaload, 1) := by decide +kernel
theorem d_La_law_268 : decode c_La_law 268 = .ok (.aload_n 0, 1) := by decide +kernel
theorem d_La_law_269 : decode c_La_law 269 = .ok (.iload_n 3, 1) := by decide +kernel
theorem d_La_law_270 : decode c_La_law 270 = .ok (.iconst 2, 1) := by decide +kernel
theorem d_La_law_271 : decode c_La_law 271 = .ok (.iadd, 1) := by decide +kernel
theorem d_La_law_272 : decode c_La_law 272 = .ok (.iaload, 1) := by decide +kernel
theorem d_La_law_273 : decode c_La_law 273 = .ok (.invokevirtual 49, 3) := by decide +kernel
theorem d_La_law_276 : decode c_La_law 276 = .ok (.aload_n 2, 1) := by decide +kernel
theorem d_La_law_277 : decode c_La_law 277 = .ok (.aload_n 0, 1) := by decide +kernel
theorem d_La_law_278 : decode c_La_law 278 = .ok (.iload_n 3, 1) := by decide +kernel
theorem d_La_law_279 : decode c_La_law 279 = .ok (.iconst 1, 1) := by decide +kernel
theorem d_La_law_280 : decode c_La_law 280 = .ok (.iadd, 1) := by decide +kernel
theorem d_La_law_281 : decode c_La_law 281 = .ok (.iaload, 1) := by decide +kernel
theorem d_La_law_282 : decode c_La_law 282 = .ok (.aload_n 0, 1) := by decide +kernel
theorem d_La_law_283 : decode c_La_law 283 = .ok (.iload_n 3, 1) := by decide +kernel
theorem d_La_law_284 : decode c_La_law 284 = .ok (.iconst 2, 1) := by decide +kernel
theorem d_La_law_285 : decode c_La_law 285 = .ok (.iadd, 1) := by decide +kernel
theorem d_La_law_286 : decode c_La_law 286 = .ok (.iaload, 1) := by decide +kernel
theorem d_La_law_287 : decode c_La_law 287 = .ok (.invokevirtual 53, 3) := by decide +kernel
theorem d_La_law_290 : decode c_La_law 290 = .ok (.if_icmp .eq 61, 3) := by decide +kernel
theorem d_La_law_293 : decode c_La_law 293 = .ok (.iconst 0, 1) := by decide +kernel
theorem d_La_law_294 : decode c_La_law 294 = .ok (.ireturn, 1) := by decide +kernel
theorem d_La_law_295 : decode c_La_law 295 = .ok (.aload_n 1, 1) := by decide +kernel
theorem d_La_law_296 : decode c_La_law 296 = .ok (.aload_n 0, 1) := by decide +kernel
theorem d_La_law_297 : decode c_La_law 297 = .ok (.iload_n 3, 1) := by decide +kernel
theorem d_La_law_298 : decode c_La_law 298 = .ok (.iconst 1, 1) := by decide +kernel
theorem d_La_law_299 : decode c_La_law 299 = .ok (.iadd, 1) := by decide +kernel
theorem d_La_law_300 : decode c_La_law 300 = .ok (.iaload, 1) := by decide +kernel
theorem d_La_law_301 : decode c_La_law 301 = .ok (.aload_n 0, 1) := by decide +kernel
theorem d_La_law_302 : decode c_La_law 302 = .ok (.iload_n 3, 1) := by decide +kernel
theorem d_La_law_303 : decode c_La_law 303 = .ok (.iconst 2, 1) := by decide +kernel
theorem d_La_law_304 : decode c_La_law 304 = .ok (.iadd, 1) := by decide +kernel
theorem d_La_law_305 : decode c_La_law 305 = .ok (.iaload, 1) := by decide +kernel
theorem d_La_law_306 : decode c_La_law 306 = .ok (.invokevirtual 54, 3) := by decide +kernel
theorem d_La_law_309 : decode c_La_law 309 = .ok (.aload_n 2, 1) := by decide +kernel
theorem d_La_law_310 : decode c_La_law 310 = .ok (.aload_n 0, 1) := by decide +kernel
theorem d_La_law_311 : decode c_La_law 311 = .ok (.iload_n 3, 1) := by decide +kernel
theorem d_La_law_312 : decode c_La_law 312 = .ok (.iconst 1, 1) := by decide +kernel
theorem d_La_law_313 : decode c_La_law 313 = .ok (.iadd, 1) := by decide +kernel
theorem d_La_law_314 : decode c_La_law 314 = .ok (.iaload, 1) := by decide +kernel
theorem d_La_law_315 : decode c_La_law 315 = .ok (.aload_n 0, 1) := by decide +kernel
theorem d_La_law_316 : decode c_La_law 316 = .ok (.iload_n 3, 1) := by decide +kernel
theorem d_La_law_317 : decode c_La_law 317 = .ok (.iconst 2, 1) := by decide +kernel
theorem d_La_law_318 : decode c_La_law 318 = .ok (.iadd, 1) := by decide +kernel
theorem d_La_law_319 : decode c_La_law 319 = .ok (.iaload, 1) := by decide +kernel
theorem d_La_law_320 : decode c_La_law 320 = .ok (.invokevirtual 58, 3) := by decide +kernel
theorem d_La_law_323 : decode c_La_law 323 = .ok (.if_icmp .eq 28, 3) := by decide +kernel
theorem d_La_law_326 : decode c_La_law 326 = .ok (.iconst 0, 1) := by decide +kernel
theorem d_La_law_327 : decode c_La_law 327 = .ok (.ireturn, 1) := by decide +kernel
theorem d_La_law_328 : decode c_La_law 328 = .ok (.aload_n 1, 1) := by decide +kernel
theorem d_La_law_329 : decode c_La_law 329 = .ok (.aload_n 0, 1) := by decide +kernel
theorem d_La_law_330 : decode c_La_law 330 = .ok (.iload_n 3, 1) := by decide +kernel
theorem d_La_law_331 : decode c_La_law 331 = .ok (.iconst 1, 1) := by decide +kernel
theorem d_La_law_332 : decode c_La_law 332 = .ok (.iadd, 1) := by decide +kernel
theorem d_La_law_333 : decode c_La_law 333 = .ok (.iaload, 1) := by decide +kernel
theorem d_La_law_334 : decode c_La_law 334 = .ok (.invokevirtual 59, 3) := by decide +kernel
theorem d_La_law_337 : decode c_La_law 337 = .ok (.aload_n 2, 1) := by decide +kernel
theorem d_La_law_338 : decode c_La_law 338 = .ok (.aload_n 0, 1) := by decide +kernel
theorem d_La_law_339 : decode c_La_law 339 = .ok (.iload_n 3, 1) := by decide +kernel
theorem d_La_law_340 : decode c_La_law 340 = .ok (.iconst 1, 1) := by decide +kernel
theorem d_La_law_341 : decode c_La_law 341 = .ok (.iadd, 1) := by decide +kernel
theorem d_La_law_342 : decode c_La_law 342 = .ok (.iaload, 1) := by decide +kernel
theorem d_La_law_343 : decode c_La_law 343 = .ok (.invokevirtual 62, 3) := by decide +kernel
theorem d_La_law_346 : decode c_La_law 346 = .ok (.if_icmp .eq 5, 3) := by decide +kernel
theorem d_La_law_349 : decode c_La_law 349 = .ok (.iconst 0, 1) := by decide +kernel
theorem d_La_law_350 : decode c_La_law 350 = .ok (.ireturn, 1) := by decide +kernel
theorem d_La_law_351 : decode c_La_law 351 = .ok (.iinc 3 4, 3) := by decide +kernel
theorem d_La_law_354 : decode c_La_law 354 = .ok (.goto (-336), 3) := by decide +kernel
theorem d_La_law_357 : decode c_La_law 357 = .ok (.iconst 1, 1) := by decide +kernel
theorem d_La_law_358 : decode c_La_law 358 = .ok (.ireturn, 1) := by decide +kernel
end
section
def k_Kl : List Int32 := [1116352408, 1899447441, (-1245643825), (-373957723), 961987163, 1508970993, (-1841331548), (-1424204075), (-670586216), 310598401, 607225278, 1426881987, 1925078388, (-2132889090), (-1680079193), (-1046744716), (-459576895), (-272742522), 264347078, 604807628, 770255983, 1249150122, 1555081692, 1996064986, (-1740746414), (-1473132947), (-1341970488), (-1084653625), (-958395405), (-710438585), 113926993, 338241895, 666307205, 773529912, 1294757372, 1396182291, 1695183700, 1986661051, (-2117940946), (-1838011259), (-1564481375), (-1474664885), (-1035236496), (-949202525), (-778901479), (-694614492), (-200395387), 275423344, 430227734, 506948616, 659060556, 883997877, 958139571, 1322822218, 1537002063, 1747873779, 1955562222, 2024104815, (-2067236844), (-1933114872), (-1866530822), (-1538233109), (-1090935817), (-965641998)]
def k_K (j : Nat) : Int32 := k_Kl.getD j 0
def k_Hl : List Int32 := [1779033703, (-1150833019), 1013904242, (-1521486534), 1359893119, (-1694144372), 528734635, 1541459225]
def k_H (j : Nat) : Int32 := k_Hl.getD j 0
def k_Sl : List Nat := [99, 124, 119, 123, 242, 107, 111, 197, 48, 1, 103, 43, 254, 215, 171, 118, 202, 130, 201, 125, 250, 89, 71, 240, 173, 212, 162, 175, 156, 164, 114, 192, 183, 253, 147, 38, 54, 63, 247, 204, 52, 165, 229, 241, 113, 216, 49, 21, 4, 199, 35, 195, 24, 150, 5, 154, 7, 18, 128, 226, 235, 39, 178, 117, 9, 131, 44, 26, 27, 110, 90, 160, 82, 59, 214, 179, 41, 227, 47, 132, 83, 209, 0, 237, 32, 252, 177, 91, 106, 203, 190, 57, 74, 76, 88, 207, 208, 239, 170, 251, 67, 77, 51, 133, 69, 249, 2, 127, 80, 60, 159, 168, 81, 163, 64, 143, 146, 157, 56, 245, 188, 182, 218, 33, 16, 255, 243, 210, 205, 12, 19, 236, 95, 151, 68, 23, 196, 167, 126, 61, 100, 93, 25, 115, 96, 129, 79, 220, 34, 42, 144, 136, 70, 238, 184, 20, 222, 94, 11, 219, 224, 50, 58, 10, 73, 6, 36, 92, 194, 211, 172, 98, 145, 149, 228, 121, 231, 200, 55, 109, 141, 213, 78, 169, 108, 86, 244, 234, 101, 122, 174, 8, 186, 120, 37, 46, 28, 166, 180, 198, 232, 221, 116, 31, 75, 189, 139, 138, 112, 62, 181, 102, 72, 3, 246, 14, 97, 53, 87, 185, 134, 193, 29, 158, 225, 248, 152, 17, 105, 217, 142, 148, 155, 30, 135, 233, 206, 85, 40, 223, 140, 161, 137, 13, 191, 230, 66, 104, 65, 153, 45, 15, 176, 84, 187, 22]
def k_S (j : Nat) : Nat := k_Sl.getD j 0
end
section
/-! The walk's own rows: one hypothesis B for the world, one E for the method; indices by natural numbers. -/
abbrev xG : Type := va_G × ClassId × ClassId × Nat × Nat × Nat
abbrev x_ty (G : xG) : List (ClassId × FieldType) := [(G.2.1, .int), (G.2.2.1, .object "PoolDice$Pool")]
abbrev x_I (G : xG) (n : Nat) (f : Nat → Int32) : va_E := .inl (G.2.1, n, .inl f)
/-- an array of bytes, by natural numbers -/
abbrev nA (g : Nat → Nat) : Nat → Int32 := fun j => nI (g j)
abbrev x_N (G : xG) (n : Nat) (g : Nat → Nat) : va_E := .inl (G.2.1, n, .inl (nA g))
/-- an array that is only read: its cell, outside of A -/
abbrev x_R (A : Nat → Prop) (U : State) (H : Heap) (r n : Nat) (f : Nat → Int32) : Prop := va_T .int r n (fun j => .int (f j)) A U H
def xS (G : xG) (A : Nat → Prop) (U : State) (H : Heap) : Prop :=
  (va_Z "PoolDice$Digest" "K" "[I" (.ref G.2.2.2.1) A U H ∧ x_R A U H G.2.2.2.1 64 k_K) ∧
  (va_Z "PoolDice$Digest" "START" "[I" (.ref G.2.2.2.2.1) A U H ∧ x_R A U H G.2.2.2.2.1 8 k_H) ∧
  (va_Z "PoolDice$Cipher" "S" "[I" (.ref G.2.2.2.2.2) A U H ∧ x_R A U H G.2.2.2.2.2 256 (nA k_S))
theorem xS.go {G : xG} {A B : Nat → Prop} {u U : State} {H H1 : Heap} (h : xS G A u H) (hvm : u.vm.Alike U.vm) (hAB : ∀ q, B q → A q) (hq : ∀ a : Nat, a < H.size → ¬ A a → H1[a]? = H[a]?) : xS G B U H1 := by
  obtain ⟨⟨h1, h2⟩, ⟨h3, h4⟩, ⟨h5, h6⟩⟩ := h
  exact ⟨⟨((h1.kept hq).narrow hAB).moved hvm, ((h2.kept hq).narrow hAB).moved hvm⟩, ⟨((h3.kept hq).narrow hAB).moved hvm, ((h4.kept hq).narrow hAB).moved hvm⟩, ⟨((h5.kept hq).narrow hAB).moved hvm, ((h6.kept hq).narrow hAB).moved hvm⟩⟩
/-- the world of a walk -/
def xB (G : xG) (A : Nat → Prop) (s : State) (H : Heap) (locs : List Loc) (ws : va_W) : Prop :=
  va_K G.1 cl_s (x_ty G) s ∧ va_P G.1 cl_s ws H ∧ va_D A ws ∧ va_S A s.heap H locs ∧ xS G A s s.heap ∧ ∀ q : Nat, s.heap.size ≤ q → A q
theorem xB.sub {G : xG} {A : Nat → Prop} {s : State} {H : Heap} {locs : List Loc} {ws ws' : va_W} (B : xB G A s H locs ws) (is : List Nat) (hn : va_nd is = true) (hs : is.map (fun i => ws[i]?) = ws'.map some) : xB G A s H locs ws' := by
  refine ⟨B.1, B.2.1.sub is ?_, B.2.2.1.sub is hn hs, B.2.2.2⟩
  have h2 := congrArg (List.filterMap id) hs
  simpa [List.filterMap_map, Function.comp_def] using h2
/-- what a class's rows say -/
def x_C (ci : Nat) (C : String) (T : u_T) (N : Nat) (ty : Nat → FieldType) : Prop :=
  cl_s[ci]? = some (C, T, N) ∧ (∀ w ∈ u_ws C T N, w ∈ gg_L) ∧ (∀ k, k < N → parseFieldDescriptor (T k).2.2.1 = some (ty k)) ∧ (∀ a, a < N → ∀ b, b < N → a ≠ b → (T a).2.1 ≠ (T b).2.1)
theorem k_Ci : x_C 0 r_Ci f_Ci 3 t_Ci := ⟨rfl, i_Ci, t_Ci_ok, n_Ci⟩
theorem k_Dg : x_C 1 r_Dg f_Dg 3 t_Dg := ⟨rfl, i_Dg, t_Dg_ok, n_Dg⟩
theorem k_Dk : x_C 2 r_Dk f_Dk 3 t_Dk := ⟨rfl, i_Dk, t_Dk_ok, n_Dk⟩
theorem k_Ge : x_C 3 r_Ge f_Ge 10 t_Ge := ⟨rfl, i_Ge, t_Ge_ok, n_Ge⟩
theorem k_Po : x_C 4 r_Po f_Po 2 t_Po := ⟨rfl, i_Po, t_Po_ok, n_Po⟩
theorem k_Pd : x_C 5 r_Pd f_Pd 5 t_Pd := ⟨rfl, i_Pd, t_Pd_ok, n_Pd⟩
theorem k_Mo : x_C 6 r_Mo f_Mo 25 t_Mo := ⟨rfl, i_Mo, t_Mo_ok, n_Mo⟩
/-- a cell may be told by another function that agrees on its places -/
theorem x_cell {cA : ClassId} {n : Nat} {f g : Nat → Int32} (h : ∀ j, j < n → f j = g j) : vp_cell cA (n, .inl f) = vp_cell cA (n, .inl g) := by
  show arrV cA n (fun j => .int (f j)) = arrV cA n (fun j => .int (g j))
  unfold arrV
  congr 1
  apply Array.ext_getElem?
  intro i
  simp only [Array.getElem?_ofFn]
  split
  · rename_i hi
    rw [h _ hi]
  · rfl
theorem xB.fn {G : xG} {A : Nat → Prop} {s : State} {H : Heap} {locs : List Loc} {ws : va_W} (B : xB G A s H locs ws) (q0 : Nat) {a : Nat} {cA : ClassId} {n : Nat} {f : Nat → Int32} (he : ws[q0]? = some (a, .inl (cA, n, .inl f))) (g : Nat → Int32) (h : ∀ j, j < n → f j = g j) : xB G A s H locs (ws.set q0 (a, .inl (cA, n, .inl g))) := by
  refine ⟨B.1, B.2.1.set B.2.2.1 he ?_ (fun _ _ => rfl), B.2.2.1.set he, B.2.2.2⟩
  show H[a]? = some (vp_cell cA (n, .inl g))
  rw [← x_cell h]
  exact B.2.1 q0 _ he
theorem x_upN (g : Nat → Nat) (k v : Nat) : upd (nA g) k (nI v) = nA (va_up g k v) := by
  funext j
  show (if j = k then nI v else nI (g j)) = nI (if j = k then v else g j)
  by_cases h : j = k
  · rw [if_pos h, if_pos h]
  · rw [if_neg h, if_neg h]
theorem x_cpN (f g : Nat → Nat) (a b n : Nat) : va_cpy (nA f) (nA g) a b n = nA (va_cpy f g a b n) := by
  funext j
  show (if b ≤ j ∧ j < b + n then nI (f (a + (j - b))) else nI (g j)) = nI (if b ≤ j ∧ j < b + n then f (a + (j - b)) else g j)
  by_cases h : b ≤ j ∧ j < b + n
  · rw [if_pos h, if_pos h]
  · rw [if_neg h, if_neg h]
theorem gg_good {w : Cond} (h : w ∈ gg_L) : (w.onTables && w.keeps) = true ∨ ∃ ty, w = .arrayClass ty := good_of_word (List.mem_filter.mp h).2
theorem gg_of {ws : List Cond} (h : ∀ w ∈ ws, w ∈ gg_L) : GoodIn gg_L ws := fun w hw => ⟨h w hw, gg_good (h w hw)⟩
theorem gg_cons {w : Cond} {ws : List Cond} (h1 : w ∈ gg_L) (h2 : ∀ w ∈ ws, w ∈ gg_L) : ∀ v ∈ w :: ws, v ∈ gg_L := fun v hv => by
  rcases List.mem_cons.mp hv with rfl | h
  · exact h1
  · exact h2 v h
theorem gg_V {own C : String} {index maxL : Nat} {y : MethodName} {cc : ByteArray} {r : Option FieldType} (h1 : Cond.methodLink own index y ∈ gg_L) (h2 : Cond.instanceMethod y ∈ gg_L) (h3 : Cond.selects C y y ∈ gg_L) (h4 : Cond.initialized C ∈ gg_L) (h5 : Cond.code y cc maxL r ∈ gg_L) : GoodIn gg_L (wsV own index C y (Cond.code y cc maxL r :: gg_L)) :=
  gg_of (gg_cons h1 (gg_cons h2 (gg_cons h3 (gg_cons h4 (gg_cons h5 (fun _ h => h))))))
theorem gg_S {own : String} {index maxL : Nat} {y : MethodName} {cc : ByteArray} {r : Option FieldType} (h1 : Cond.methodLink own index y ∈ gg_L) (h2 : Cond.static y ∈ gg_L) (h4 : Cond.initialized y.cls ∈ gg_L) (h5 : Cond.code y cc maxL r ∈ gg_L) : GoodIn gg_L (va_wsS own index y (Cond.code y cc maxL r :: gg_L)) :=
  gg_of (gg_cons h1 (gg_cons h2 (gg_cons h4 (gg_cons h5 (fun _ h => h)))))
theorem gg_I {maxL : Nat} {y : MethodName} {cc : ByteArray} {r : Option FieldType} (h5 : Cond.code y cc maxL r ∈ gg_L) : GoodIn gg_L (Cond.code y cc maxL r :: gg_L) := gg_of (gg_cons h5 (fun _ h => h))
/-- what a method that is called may rest on -/
def xPre (G : xG) (ro : List (Nat × Nat × (Nat → Int32))) (w0 : va_W) (sz : Nat) (U : State) : Prop :=
  U.heap.size = sz ∧ va_P G.1 cl_s w0 U.heap ∧ va_K G.1 cl_s (x_ty G) U ∧ va_D (fun _ => True) w0 ∧ xS G (va_A w0 sz) U U.heap ∧ ∀ r ∈ ro, x_R (va_A w0 sz) U U.heap r.1 r.2.1 r.2.2
def xPost (G : xG) (A : Nat → Prop) (w : va_W) (t : State) : Prop := va_P G.1 cl_s w t.heap ∧ va_K G.1 cl_s (x_ty G) t ∧ va_D A w
theorem xPre.blind {G : xG} {ro : List (Nat × Nat × (Nat → Int32))} {w0 : va_W} {sz : Nat} {av : List Value} : FrameBlind (va_Pc av (xPre G ro w0 sz)) := by
  intro a U g mk q
  obtain ⟨q0, q1, q2, q3, q4, q5, q6⟩ := q
  refine ⟨q0, q1, q2, va_K.moved (u := U) (U := U.calling g mk a) (Vm.Alike.refl U.vm) q3, q4, q5.go (U := U.calling g mk a) (Vm.Alike.refl U.vm) (fun _ h => h) (fun _ _ _ => rfl), fun r hr => ?_⟩
  exact (q6 r hr).moved (U := U.calling g mk a) (Vm.Alike.refl U.vm)
/-- the contracts -/
abbrev xMv (G : xG) (l : Launch) (y : MethodName) (cc : ByteArray) (nL : Nat) (rm : Room) (av : List Value) (ro : List (Nat × Nat × (Nat → Int32))) (w0 : va_W) (S : Type) (post : S → Prop) (w1 : S → va_W) (mc ms : Nat) : Prop :=
  ∀ sz : Nat, Met l y (Cond.code y cc nL none :: gg_L) rm (va_Pc av (xPre G ro w0 sz)) (va_Qv post (fun u t => xPost G (va_A w0 sz) (w1 u) t) (va_A w0 sz)) mc ms (va_A w0 sz)
abbrev xMi (G : xG) (l : Launch) (y : MethodName) (cc : ByteArray) (nL : Nat) (ret : FieldType) (rm : Room) (av : List Value) (ro : List (Nat × Nat × (Nat → Int32))) (w0 : va_W) (S : Type) (post : Int32 → S → Prop) (w1 : S → va_W) (mc ms : Nat) : Prop :=
  ∀ sz : Nat, Met l y (Cond.code y cc nL (some ret) :: gg_L) rm (va_Pc av (xPre G ro w0 sz)) (va_Qi post (fun u t => xPost G (va_A w0 sz) (w1 u) t) (va_A w0 sz)) mc ms (va_A w0 sz)
/-- reads the heap, changes nothing -/
abbrev xMr (G : xG) (l : Launch) (y : MethodName) (cc : ByteArray) (nL : Nat) (ret : FieldType) (rm : Room) (av : List Value) (ro : List (Nat × Nat × (Nat → Int32))) (w0 : va_W) (r : Int32) : Prop :=
  ∀ sz : Nat, Met l y (Cond.code y cc nL (some ret) :: gg_L) rm (va_Pc av (xPre G ro w0 sz)) (k2_QcV (.int r)) 0 0 (fun _ => False)
/-- a function of its arguments -/
abbrev xMf (l : Launch) (y : MethodName) (cc : ByteArray) (nL : Nat) (ret : FieldType) (rm : Room) (av : List Value) (r : Int32) : Prop :=
  Met l y (Cond.code y cc nL (some ret) :: gg_L) rm (va_Pc av (fun _ => True)) (k2_QcV (.int r)) 0 0 (fun _ => False)
theorem x_args {av : List Value} {n : Nat} (m : MethodId) (h : (lg_sl av).length ≤ n) : ∃ ls : Array Slot, lv_has ls n (lv_args 0 av) ∧ entryFrame m av.toArray n = F0 m 0 ls [] := ⟨_, lv_entry av h, lg_entry_eq m av n⟩
section XO
variable {G : xG} {l : Launch} {y : MethodName} {cc : ByteArray} {nL : Nat} {ret : FieldType} {rm : Room} {av : List Value} {ro : List (Nat × Nat × (Nat → Int32))} {w0 : va_W} {S : Type} {mc ms : Nat} {own : String}
theorem x_pro {U : State} {sz : Nat} (hp : xPre G ro w0 sz U) : xB G (va_A w0 sz) U U.heap [] w0 ∧ ∀ r ∈ ro, x_R (va_A w0 sz) U U.heap r.1 r.2.1 r.2.2 := by
  obtain ⟨rfl, h1, h2, h3, h4, h5⟩ := hp
  exact ⟨⟨h2, h1, h3.self, va_S.rf, h4, fun q h => Or.inr h⟩, h5⟩
theorem xMv.of {post : S → Prop} {w1 : S → va_W} (hy : plainName y.cls = true) (hs : (lg_sl av).length ≤ nL) (ho : y.cls = own)
    (body : ∀ (p : Program) (e : Env) (s : State) (m : MethodId) (below : List Frame) (meth : Method) (c : Code) (A : Nat → Prop) (ls : Array Slot), CallFix p m c cc nL s av.toArray gg_L own → meth.sig.returnType = none → meth.locks = false → meth.name = y.name → xB G A s s.heap [] w0 → (∀ r ∈ ro, x_R A s s.heap r.1 r.2.1 r.2.2) → lv_has ls nL (lv_args 0 av) →
      W p l e rm s m av.toArray below meth c s.heap [] 0 0 (MQ below (va_Qv post (fun u t => xPost G A (w1 u) t) A) av.toArray s mc ms A) (F0 m 0 ls [])) : xMv G l y cc nL rm av ro w0 S post w1 mc ms := by
  intro sz
  refine Met.ofW (cc := cc) (maxL := nL) (ret := none) hy rfl ?_
  intro p e s m args below meth c s₁ B hml hv
  obtain ⟨rfl, hp⟩ := hv
  obtain ⟨hB, hro⟩ := x_pro hp
  have hts := atoms_spec (ws := Cond.code y cc nL none :: gg_L) B.pre
  obtain ⟨ls, hl, hf⟩ := x_args m hs
  rw [hf]
  exact body p e s m below meth c _ ls ⟨B.exec, B.bytes, hml, ho ▸ findClass_of_methodNamed B.named, fun w h => hts w (List.mem_cons_of_mem _ h)⟩ B.returns B.notSynchronized (name_of_methodNamed B.named B.method).1 hB hro hl
theorem xMi.of {post : Int32 → S → Prop} {w1 : S → va_W} (hy : plainName y.cls = true) (hs : (lg_sl av).length ≤ nL) (ho : y.cls = own)
    (body : ∀ (p : Program) (e : Env) (s : State) (m : MethodId) (below : List Frame) (meth : Method) (c : Code) (A : Nat → Prop) (ls : Array Slot), CallFix p m c cc nL s av.toArray gg_L own → meth.sig.returnType = some ret → meth.locks = false → meth.name = y.name → xB G A s s.heap [] w0 → (∀ r ∈ ro, x_R A s s.heap r.1 r.2.1 r.2.2) → lv_has ls nL (lv_args 0 av) →
      W p l e rm s m av.toArray below meth c s.heap [] 0 0 (MQ below (va_Qi post (fun u t => xPost G A (w1 u) t) A) av.toArray s mc ms A) (F0 m 0 ls [])) : xMi G l y cc nL ret rm av ro w0 S post w1 mc ms := by
  intro sz
  refine Met.ofW (cc := cc) (maxL := nL) (ret := some ret) hy rfl ?_
  intro p e s m args below meth c s₁ B hml hv
  obtain ⟨rfl, hp⟩ := hv
  obtain ⟨hB, hro⟩ := x_pro hp
  have hts := atoms_spec (ws := Cond.code y cc nL (some ret) :: gg_L) B.pre
  obtain ⟨ls, hl, hf⟩ := x_args m hs
  rw [hf]
  exact body p e s m below meth c _ ls ⟨B.exec, B.bytes, hml, ho ▸ findClass_of_methodNamed B.named, fun w h => hts w (List.mem_cons_of_mem _ h)⟩ B.returns B.notSynchronized (name_of_methodNamed B.named B.method).1 hB hro hl
theorem xMr.of {r : Int32} (hy : plainName y.cls = true) (hs : (lg_sl av).length ≤ nL) (ho : y.cls = own)
    (body : ∀ (p : Program) (e : Env) (s : State) (m : MethodId) (below : List Frame) (meth : Method) (c : Code) (A : Nat → Prop) (ls : Array Slot), CallFix p m c cc nL s av.toArray gg_L own → meth.sig.returnType = some ret → meth.locks = false → meth.name = y.name → xB G A s s.heap [] w0 → (∀ r ∈ ro, x_R A s s.heap r.1 r.2.1 r.2.2) → lv_has ls nL (lv_args 0 av) →
      W p l e rm s m av.toArray below meth c s.heap [] 0 0 (MQ below (k2_QcV (.int r)) av.toArray s 0 0 (fun _ => False)) (F0 m 0 ls [])) : xMr G l y cc nL ret rm av ro w0 r := by
  intro sz
  refine Met.ofW (cc := cc) (maxL := nL) (ret := some ret) hy rfl ?_
  intro p e s m args below meth c s₁ B hml hv
  obtain ⟨rfl, hp⟩ := hv
  obtain ⟨hB, hro⟩ := x_pro hp
  have hts := atoms_spec (ws := Cond.code y cc nL (some ret) :: gg_L) B.pre
  obtain ⟨ls, hl, hf⟩ := x_args m hs
  rw [hf]
  exact body p e s m below meth c _ ls ⟨B.exec, B.bytes, hml, ho ▸ findClass_of_methodNamed B.named, fun w h => hts w (List.mem_cons_of_mem _ h)⟩ B.returns B.notSynchronized (name_of_methodNamed B.named B.method).1 hB hro hl
theorem xMf.of {r : Int32} (hy : plainName y.cls = true) (hs : (lg_sl av).length ≤ nL) (ho : y.cls = own)
    (body : ∀ (p : Program) (e : Env) (s : State) (m : MethodId) (below : List Frame) (meth : Method) (c : Code) (ls : Array Slot), CallFix p m c cc nL s av.toArray gg_L own → meth.sig.returnType = some ret → meth.locks = false → lv_has ls nL (lv_args 0 av) →
      W p l e rm s m av.toArray below meth c s.heap [] 0 0 (MQ below (k2_QcV (.int r)) av.toArray s 0 0 (fun _ => False)) (F0 m 0 ls [])) : xMf l y cc nL ret rm av r := by
  refine Met.ofW (cc := cc) (maxL := nL) (ret := some ret) hy rfl ?_
  intro p e s m args below meth c s₁ B hml hv
  obtain ⟨rfl, -⟩ := hv
  have hts := atoms_spec (ws := Cond.code y cc nL (some ret) :: gg_L) B.pre
  obtain ⟨ls, hl, hf⟩ := x_args m hs
  rw [hf]
  exact body p e s m below meth c ls ⟨B.exec, B.bytes, hml, ho ▸ findClass_of_methodNamed B.named, fun w h => hts w (List.mem_cons_of_mem _ h)⟩ B.returns B.notSynchronized hl
end XO
end
section
section XR
variable {p : Program} {l : Launch} {e : Env} {R : Room} {s : State} {m : MethodId} {args : Array Value} {below : List Frame} {meth : Method} {c : Code} {H : Heap} {locs : List Loc} {cells slots : Nat} {Q : State → Prop}
variable {cc : ByteArray} {pc : Nat} {ls : Array Slot} {rest : List Value} {A : Nat → Prop} {a : Nat} {ws : va_W} {G : xG} {nL : Nat} {own : String}
theorem x_top {v v' : Int32} (h : v = v') (k : W p l e R s m args below meth c H locs cells slots Q (F0 m pc ls (.int v' :: rest))) : W p l e R s m args below meth c H locs cells slots Q (F0 m pc ls (.int v :: rest)) := h ▸ k
theorem x_iadd (E : CallFix p m c cc nL s args gg_L own) {x y : Nat} (hdg : decode cc pc = .ok (.iadd, 1)) (k : W p l e R s m args below meth c H locs cells slots Q (F0 m (pc + 1) ls (.int (nI (x + y)) :: rest))) : W p l e R s m args below meth c H locs cells slots Q (F0 m pc ls (.int (nI y) :: .int (nI x) :: rest)) := lv_iadd E.1 E.2.1 hdg (x_top (nI_add x y) k)
theorem x_isub (E : CallFix p m c cc nL s args gg_L own) {x y : Nat} (hdg : decode cc pc = .ok (.isub, 1)) (h : y ≤ x) (k : W p l e R s m args below meth c H locs cells slots Q (F0 m (pc + 1) ls (.int (nI (x - y)) :: rest))) : W p l e R s m args below meth c H locs cells slots Q (F0 m pc ls (.int (nI y) :: .int (nI x) :: rest)) := lv_isub E.1 E.2.1 hdg (x_top (pk_sub h) k)
theorem x_imul (E : CallFix p m c cc nL s args gg_L own) {x y : Nat} (hdg : decode cc pc = .ok (.imul, 1)) (k : W p l e R s m args below meth c H locs cells slots Q (F0 m (pc + 1) ls (.int (nI (x * y)) :: rest))) : W p l e R s m args below meth c H locs cells slots Q (F0 m pc ls (.int (nI y) :: .int (nI x) :: rest)) := lv_imul E.1 E.2.1 hdg (x_top (pk_mul x y) k)
theorem x_idiv (E : CallFix p m c cc nL s args gg_L own) {x y : Nat} (hdg : decode cc pc = .ok (.idiv, 1)) (hx : x < 2 ^ 31) (h0 : 0 < y) (hy : y < 2 ^ 31) (k : W p l e R s m args below meth c H locs cells slots Q (F0 m (pc + 1) ls (.int (nI (x / y)) :: rest))) : W p l e R s m args below meth c H locs cells slots Q (F0 m pc ls (.int (nI y) :: .int (nI x) :: rest)) := lv_idiv E.1 E.2.1 hdg (nI_ne0 h0 hy) (x_top (pk_div hx h0 hy) k)
theorem x_irem (E : CallFix p m c cc nL s args gg_L own) {x y : Nat} (hdg : decode cc pc = .ok (.irem, 1)) (hx : x < 2 ^ 31) (h0 : 0 < y) (hy : y < 2 ^ 31) (k : W p l e R s m args below meth c H locs cells slots Q (F0 m (pc + 1) ls (.int (nI (x % y)) :: rest))) : W p l e R s m args below meth c H locs cells slots Q (F0 m pc ls (.int (nI y) :: .int (nI x) :: rest)) := lv_irem E.1 E.2.1 hdg (nI_ne0 h0 hy) (x_top (pk_rem hx h0 hy) k)
theorem x_ixor (E : CallFix p m c cc nL s args gg_L own) {x y : Nat} (hdg : decode cc pc = .ok (.ixor, 1)) (k : W p l e R s m args below meth c H locs cells slots Q (F0 m (pc + 1) ls (.int (nI (x ^^^ y)) :: rest))) : W p l e R s m args below meth c H locs cells slots Q (F0 m pc ls (.int (nI y) :: .int (nI x) :: rest)) := lv_ixor E.1 E.2.1 hdg (x_top (Int32.toBitVec_inj.mp (by simp [nI, BitVec.ofNat_xor])) k)
/-- comparisons of two numbers that are not negative -/
theorem x_lt (E : CallFix p m c cc nL s args gg_L own) {x y : Nat} {off : Int} {tgt : Nat} (hdg : decode cc pc = .ok (.if_icmp .lt off, 3)) (ht : (pc : Int) + off = (tgt : Int)) (hx : x < 2 ^ 31) (hy : y < 2 ^ 31) (kt : x < y → W p l e R s m args below meth c H locs cells slots Q (F0 m tgt ls rest)) (kf : y ≤ x → W p l e R s m args below meth c H locs cells slots Q (F0 m (pc + 3) ls rest)) : W p l e R s m args below meth c H locs cells slots Q (F0 m pc ls (.int (nI y) :: .int (nI x) :: rest)) :=
  lv_icmp_lt E.1 E.2.1 hdg ht (fun h => kt ((nI_ltI hx hy).mp h)) (fun h => kf (Nat.le_of_not_lt fun q => h ((nI_ltI hx hy).mpr q)))
theorem x_ge (E : CallFix p m c cc nL s args gg_L own) {x y : Nat} {off : Int} {tgt : Nat} (hdg : decode cc pc = .ok (.if_icmp .ge off, 3)) (ht : (pc : Int) + off = (tgt : Int)) (hx : x < 2 ^ 31) (hy : y < 2 ^ 31) (kt : y ≤ x → W p l e R s m args below meth c H locs cells slots Q (F0 m tgt ls rest)) (kf : x < y → W p l e R s m args below meth c H locs cells slots Q (F0 m (pc + 3) ls rest)) : W p l e R s m args below meth c H locs cells slots Q (F0 m pc ls (.int (nI y) :: .int (nI x) :: rest)) :=
  lv_icmp_ge E.1 E.2.1 hdg ht (fun h => kt ((nI_leI hy hx).mp h)) (fun h => kf (Nat.lt_of_not_le fun q => h ((nI_leI hy hx).mpr q)))
theorem x_gt (E : CallFix p m c cc nL s args gg_L own) {x y : Nat} {off : Int} {tgt : Nat} (hdg : decode cc pc = .ok (.if_icmp .gt off, 3)) (ht : (pc : Int) + off = (tgt : Int)) (hx : x < 2 ^ 31) (hy : y < 2 ^ 31) (kt : y < x → W p l e R s m args below meth c H locs cells slots Q (F0 m tgt ls rest)) (kf : x ≤ y → W p l e R s m args below meth c H locs cells slots Q (F0 m (pc + 3) ls rest)) : W p l e R s m args below meth c H locs cells slots Q (F0 m pc ls (.int (nI y) :: .int (nI x) :: rest)) :=
  lv_icmp_gt E.1 E.2.1 hdg ht (fun h => kt ((nI_ltI hy hx).mp h)) (fun h => kf (Nat.le_of_not_lt fun q => h ((nI_ltI hy hx).mpr q)))
theorem x_le (E : CallFix p m c cc nL s args gg_L own) {x y : Nat} {off : Int} {tgt : Nat} (hdg : decode cc pc = .ok (.if_icmp .le off, 3)) (ht : (pc : Int) + off = (tgt : Int)) (hx : x < 2 ^ 31) (hy : y < 2 ^ 31) (kt : x ≤ y → W p l e R s m args below meth c H locs cells slots Q (F0 m tgt ls rest)) (kf : y < x → W p l e R s m args below meth c H locs cells slots Q (F0 m (pc + 3) ls rest)) : W p l e R s m args below meth c H locs cells slots Q (F0 m pc ls (.int (nI y) :: .int (nI x) :: rest)) :=
  lv_icmp_le E.1 E.2.1 hdg ht (fun h => kt ((nI_leI hx hy).mp h)) (fun h => kf (Nat.lt_of_not_le fun q => h ((nI_leI hx hy).mpr q)))
theorem x_eq (E : CallFix p m c cc nL s args gg_L own) {x y : Nat} {off : Int} {tgt : Nat} (hdg : decode cc pc = .ok (.if_icmp .eq off, 3)) (ht : (pc : Int) + off = (tgt : Int)) (hx : x < 2 ^ 31) (hy : y < 2 ^ 31) (kt : x = y → W p l e R s m args below meth c H locs cells slots Q (F0 m tgt ls rest)) (kf : ¬ x = y → W p l e R s m args below meth c H locs cells slots Q (F0 m (pc + 3) ls rest)) : W p l e R s m args below meth c H locs cells slots Q (F0 m pc ls (.int (nI y) :: .int (nI x) :: rest)) :=
  lv_icmp_eq E.1 E.2.1 hdg ht (fun h => kt ((nI_eq hx hy).mp h)) (fun h => kf (fun q => h ((nI_eq hx hy).mpr q)))
theorem x_ne (E : CallFix p m c cc nL s args gg_L own) {x y : Nat} {off : Int} {tgt : Nat} (hdg : decode cc pc = .ok (.if_icmp .ne off, 3)) (ht : (pc : Int) + off = (tgt : Int)) (hx : x < 2 ^ 31) (hy : y < 2 ^ 31) (kt : ¬ x = y → W p l e R s m args below meth c H locs cells slots Q (F0 m tgt ls rest)) (kf : x = y → W p l e R s m args below meth c H locs cells slots Q (F0 m (pc + 3) ls rest)) : W p l e R s m args below meth c H locs cells slots Q (F0 m pc ls (.int (nI y) :: .int (nI x) :: rest)) :=
  lv_icmp_ne E.1 E.2.1 hdg ht (fun h => kt (fun q => h ((nI_eq hx hy).mpr q))) (fun h => kf ((nI_eq hx hy).mp h))
theorem x_if0 (E : CallFix p m c cc nL s args gg_L own) {x : Nat} {off : Int} {tgt : Nat} (hdg : decode cc pc = .ok (.ifCond .eq off, 3)) (ht : (pc : Int) + off = (tgt : Int)) (hx : x < 2 ^ 31) (kt : x = 0 → W p l e R s m args below meth c H locs cells slots Q (F0 m tgt ls rest)) (kf : ¬ x = 0 → W p l e R s m args below meth c H locs cells slots Q (F0 m (pc + 3) ls rest)) : W p l e R s m args below meth c H locs cells slots Q (F0 m pc ls (.int (nI x) :: rest)) :=
  lv_if_eq E.1 E.2.1 hdg ht (fun h => kt ((nI_eq hx (by decide)).mp (h.trans nI_0.symm))) (fun h => kf (fun q => h (by rw [q, nI_0])))
theorem x_ifn (E : CallFix p m c cc nL s args gg_L own) {x : Nat} {off : Int} {tgt : Nat} (hdg : decode cc pc = .ok (.ifCond .ne off, 3)) (ht : (pc : Int) + off = (tgt : Int)) (hx : x < 2 ^ 31) (kt : ¬ x = 0 → W p l e R s m args below meth c H locs cells slots Q (F0 m tgt ls rest)) (kf : x = 0 → W p l e R s m args below meth c H locs cells slots Q (F0 m (pc + 3) ls rest)) : W p l e R s m args below meth c H locs cells slots Q (F0 m pc ls (.int (nI x) :: rest)) :=
  lv_if_ne E.1 E.2.1 hdg ht (fun h => kt (fun q => h (by rw [q, nI_0]))) (fun h => kf ((nI_eq hx (by decide)).mp (h.trans nI_0.symm)))
/-- a counter goes up by a number -/
theorem x_inc (E : CallFix p m c cc nL s args gg_L own) {i k x : Nat} (d : Nat) {n : Int} {lv lv' : List (Nat × Value)} (hdg : decode cc pc = .ok (.iinc i n, 3)) (h : lv_has ls nL lv) (hk : lv[k]? = some (i, .int (nI x))) (hd : n = (d : Int)) (hn : i < nL) (hl : (i, Value.int (nI (x + d))) :: lv.filter (fun q => !(q.1 == i) && !(q.1 + 1 == i && q.2.category == 2)) = lv') (kk : ∀ ls' : Array Slot, lv_has ls' nL lv' → W p l e R s m args below meth c H locs cells slots Q (F0 m (pc + 3) ls' rest)) : W p l e R s m args below meth c H locs cells slots Q (F0 m pc ls rest) :=
  lv_iinc E.1 E.2.1 hdg h hk (by rw [hd, ← nI_add]; rfl) hn hl kk
theorem x_get (E : CallFix p m c cc nL s args gg_L own) (B : xB G A s H locs ws) (q0 : Nat) {ci : Nat} {fs : List Value} (he : ws[q0]? = some (a, .inr (ci, fs))) {C : String} {T : u_T} {N : Nat} {ty : Nat → FieldType} (Kc : x_C ci C T N ty) (k : Nat) (hk : k < N) {index : Nat} (hlink : Cond.fieldLink own index (T k).1 (T k).2.1 (T k).2.2.1 ∈ gg_L) {v : Value} (hv : fs[k]? = some v) (hdg : decode cc pc = .ok (.getfield index, 3)) (kk : W p l e R s m args below meth c H locs cells slots Q (F0 m (pc + 3) ls (v :: rest))) : W p l e R s m args below meth c H locs cells slots Q (F0 m pc ls (.ref a :: rest)) :=
  va_get (D := G.1) E.1 E.2.1 E.2.2.2.2 Kc.2.1 E.2.2.2.1 B.1 B.2.1 q0 he Kc.1 k hk (E.2.2.2.2 _ hlink) (fun _ h => h) hv hdg kk
theorem x_put (E : CallFix p m c cc nL s args gg_L own) (B : xB G A s H locs ws) (q0 : Nat) {ci : Nat} {fs : List Value} (he : ws[q0]? = some (a, .inr (ci, fs))) {C : String} {T : u_T} {N : Nat} {ty : Nat → FieldType} (Kc : x_C ci C T N ty) (k : Nat) (hk : k < N) {index : Nat} (hlink : Cond.fieldLink own index (T k).1 (T k).2.1 (T k).2.2.1 ∈ gg_L) {v : Value} (hfin : (T k).2.2.2 = false) (hn : narrow (ty k) v = v) (hfit : fits (ty k) v = true) (hl : k < fs.length) (hdg : decode cc pc = .ok (.putfield index, 3)) (kk : ∀ (H1 : Heap) (locs1 : List Loc), xB G A s H1 locs1 (ws.set q0 (a, .inr (ci, fs.set k v))) → W p l e R s m args below meth c H1 locs1 cells slots Q (F0 m (pc + 3) ls rest)) : W p l e R s m args below meth c H locs cells slots Q (F0 m pc ls (v :: .ref a :: rest)) :=
  va_put (D := G.1) E.1 E.2.1 E.2.2.2.2 Kc.2.1 ty Kc.2.2.1 Kc.2.2.2 E.2.2.2.1 B.1 B.2.1 B.2.2.1 B.2.2.2.1 q0 he Kc.1 k hk (E.2.2.2.2 _ hlink) (fun _ h => h) hfin (Kc.2.2.1 k hk) hn hfit hl hdg (fun H1 l1 h1 h2 h3 => kk H1 l1 ⟨B.1, h1, h2, h3, B.2.2.2.2⟩)
theorem x_putF (E : CallFix p m c cc nL s args gg_L own) (hin : meth.name = "<init>") (B : xB G A s H locs ws) (q0 : Nat) {ci : Nat} {fs : List Value} (he : ws[q0]? = some (a, .inr (ci, fs))) {C : String} {T : u_T} {N : Nat} {ty : Nat → FieldType} (Kc : x_C ci C T N ty) (k : Nat) (hk : k < N) {index : Nat} (hlink : Cond.fieldLink own index (T k).1 (T k).2.1 (T k).2.2.1 ∈ gg_L) {v : Value} (hfin : (T k).2.2.2 = true) (hdecl : (T k).1 = own) (hn : narrow (ty k) v = v) (hfit : fits (ty k) v = true) (hl : k < fs.length) (hdg : decode cc pc = .ok (.putfield index, 3)) (kk : ∀ (H1 : Heap) (locs1 : List Loc), xB G A s H1 locs1 (ws.set q0 (a, .inr (ci, fs.set k v))) → W p l e R s m args below meth c H1 locs1 cells slots Q (F0 m (pc + 3) ls rest)) : W p l e R s m args below meth c H locs cells slots Q (F0 m pc ls (v :: .ref a :: rest)) :=
  va_putF (D := G.1) E.1 E.2.1 E.2.2.2.2 Kc.2.1 ty Kc.2.2.1 Kc.2.2.2 E.2.2.2.1 B.1 B.2.1 B.2.2.1 B.2.2.2.1 q0 he Kc.1 k hk (E.2.2.2.2 _ hlink) (fun _ h => h) hfin hin hdecl (Kc.2.2.1 k hk) hn hfit hl hdg (fun H1 l1 h1 h2 h3 => kk H1 l1 ⟨B.1, h1, h2, h3, B.2.2.2.2⟩)
theorem x_new (E : CallFix p m c cc nL s args gg_L own) (B : xB G A s H locs ws) {ci : Nat} {C : String} {T : u_T} {N : Nat} {ty : Nat → FieldType} (Kc : x_C ci C T N ty) {index : Nat} (hcl : Cond.classLink own index C ∈ gg_L) (hinst : Cond.instantiable C N ∈ gg_L) (hini : Cond.initialized C ∈ gg_L) {fs : List Value} (hfs : ∀ j, j < N → defaultValue (ty j) = vp_V fs j) (hcells : cells + 1 ≤ R.cells) (hslots : slots + N ≤ R.slots) (hdg : decode cc pc = .ok (.new index, 3)) (kk : ∀ (q : Nat) (H1 : Heap), xB G A s H1 locs (ws ++ [(q, .inr (ci, fs))]) → W p l e R s m args below meth c H1 locs (cells + 1) (slots + N) Q (F0 m (pc + 3) ls (.ref q :: rest))) : W p l e R s m args below meth c H locs cells slots Q (F0 m pc ls rest) :=
  va_new (D := G.1) E.1 E.2.1 E.2.2.2.2 Kc.2.1 ty Kc.2.2.1 E.2.2.2.1 (E.2.2.2.2 _ hcl) (E.2.2.2.2 _ hinst) (E.2.2.2.2 _ hini) B.1 B.2.1 B.2.2.1 B.2.2.2.1 B.2.2.2.2.2 Kc.1 hfs hcells hslots hdg (fun q H1 h1 h2 h3 => kk q H1 ⟨B.1, h1, h2, h3, B.2.2.2.2⟩)
theorem x_ald (E : CallFix p m c cc nL s args gg_L own) (B : xB G A s H locs ws) (q0 : Nat) {n : Nat} {f : Nat → Int32} (he : ws[q0]? = some (a, x_I G n f)) {i : Nat} (hi : i < n) (hn : n < 2 ^ 31) (hdg : decode cc pc = .ok (.iaload, 1)) (kk : W p l e R s m args below meth c H locs cells slots Q (F0 m (pc + 1) ls (.int (f i) :: rest))) : W p l e R s m args below meth c H locs cells slots Q (F0 m pc ls (.int (nI i) :: .ref a :: rest)) :=
  va_iald (D := G.1) E.1 E.2.1 B.1 B.2.1 q0 0 he rfl (vp_in_nI hi hn) hdg (by rw [nI_clamp (by omega)]; exact kk)
theorem x_aldN (E : CallFix p m c cc nL s args gg_L own) (B : xB G A s H locs ws) (q0 : Nat) {n : Nat} {g : Nat → Nat} (he : ws[q0]? = some (a, x_N G n g)) {i : Nat} (hi : i < n) (hn : n < 2 ^ 31) (hdg : decode cc pc = .ok (.iaload, 1)) (kk : W p l e R s m args below meth c H locs cells slots Q (F0 m (pc + 1) ls (.int (nI (g i)) :: rest))) : W p l e R s m args below meth c H locs cells slots Q (F0 m pc ls (.int (nI i) :: .ref a :: rest)) := x_ald E B q0 he hi hn hdg kk
theorem x_ast (E : CallFix p m c cc nL s args gg_L own) (B : xB G A s H locs ws) (q0 : Nat) {n : Nat} {f : Nat → Int32} (he : ws[q0]? = some (a, x_I G n f)) {i : Nat} {x : Int32} (hi : i < n) (hn : n < 2 ^ 31) (hdg : decode cc pc = .ok (.iastore, 1)) (kk : ∀ (H1 : Heap) (locs1 : List Loc), xB G A s H1 locs1 (ws.set q0 (a, x_I G n (upd f i x))) → W p l e R s m args below meth c H1 locs1 cells slots Q (F0 m (pc + 1) ls rest)) : W p l e R s m args below meth c H locs cells slots Q (F0 m pc ls (.int x :: .int (nI i) :: .ref a :: rest)) :=
  va_iast (D := G.1) E.1 E.2.1 B.1 B.2.1 B.2.2.1 B.2.2.2.1 q0 0 he rfl (vp_in_nI hi hn) hdg (fun H1 l1 h1 h2 h3 => by
    rw [nI_clamp (by omega)] at h1 h2
    exact kk H1 l1 ⟨B.1, h1, h2, h3, B.2.2.2.2⟩)
theorem x_astN (E : CallFix p m c cc nL s args gg_L own) (B : xB G A s H locs ws) (q0 : Nat) {n : Nat} {g : Nat → Nat} (he : ws[q0]? = some (a, x_N G n g)) {i v : Nat} (hi : i < n) (hn : n < 2 ^ 31) (hdg : decode cc pc = .ok (.iastore, 1)) (kk : ∀ (H1 : Heap) (locs1 : List Loc), xB G A s H1 locs1 (ws.set q0 (a, x_N G n (va_up g i v))) → W p l e R s m args below meth c H1 locs1 cells slots Q (F0 m (pc + 1) ls rest)) : W p l e R s m args below meth c H locs cells slots Q (F0 m pc ls (.int (nI v) :: .int (nI i) :: .ref a :: rest)) :=
  x_ast E B q0 he hi hn hdg (fun H1 l1 h => kk H1 l1 (by rw [x_upN] at h; exact h))
theorem x_alen (E : CallFix p m c cc nL s args gg_L own) (B : xB G A s H locs ws) (q0 : Nat) {n : Nat} {f : Nat → Int32} (he : ws[q0]? = some (a, x_I G n f)) (hdg : decode cc pc = .ok (.arraylength, 1)) (kk : W p l e R s m args below meth c H locs cells slots Q (F0 m (pc + 1) ls (.int (nI n) :: rest))) : W p l e R s m args below meth c H locs cells slots Q (F0 m pc ls (.ref a :: rest)) :=
  va_alen (D := G.1) E.1 E.2.1 B.1 B.2.1 q0 0 he rfl rfl hdg kk
/-- a row that is only read -/
theorem x_tld (E : CallFix p m c cc nL s args gg_L own) (B : xB G A s H locs ws) {r n : Nat} {f : Nat → Int32} (hT : x_R A s s.heap r n f) {i : Nat} (hi : i < n) (hn : n < 2 ^ 31) (hdg : decode cc pc = .ok (.iaload, 1)) (kk : W p l e R s m args below meth c H locs cells slots Q (F0 m (pc + 1) ls (.int (f i) :: rest))) : W p l e R s m args below meth c H locs cells slots Q (F0 m pc ls (.int (nI i) :: .ref r :: rest)) :=
  va_ti E.1 E.2.1 hT B.2.2.2.1 (vp_in_nI hi hn) (v := .int (f i)) (by rw [nI_clamp (by omega)]) hdg kk
theorem x_tlen (E : CallFix p m c cc nL s args gg_L own) (B : xB G A s H locs ws) {r n : Nat} {f : Nat → Int32} (hT : x_R A s s.heap r n f) (hdg : decode cc pc = .ok (.arraylength, 1)) (kk : W p l e R s m args below meth c H locs cells slots Q (F0 m (pc + 1) ls (.int (nI n) :: rest))) : W p l e R s m args below meth c H locs cells slots Q (F0 m pc ls (.ref r :: rest)) :=
  va_tlen E.1 E.2.1 hT B.2.2.2.1 rfl hdg kk
theorem x_gets (E : CallFix p m c cc nL s args gg_L own) (B : xB G A s H locs ws) {C n d : String} {v : Value} {index : Nat} (hZ : va_Z C n d v A s s.heap) (hlink : Cond.fieldLink own index C n d ∈ gg_L) (hdg : decode cc pc = .ok (.getstatic index, 3)) (kk : W p l e R s m args below meth c H locs cells slots Q (F0 m (pc + 3) ls (v :: rest))) : W p l e R s m args below meth c H locs cells slots Q (F0 m pc ls rest) :=
  va_gets E.1 E.2.1 hZ B.2.2.2.1 E.2.2.2.1 (E.2.2.2.2 _ hlink) (fun _ h => h) hdg kk
theorem x_newa (E : CallFix p m c cc nL s args gg_L own) (B : xB G A s H locs ws) (harr : Cond.arrayClass .int ∈ gg_L) {n : Nat} (hn : n < 100000) (hcells : cells + 1 ≤ R.cells) (hslots : slots + n ≤ R.slots) (hdg : decode cc pc = .ok (.newarray .int, 2)) (kk : ∀ (q : Nat) (H1 : Heap), xB G A s H1 locs (ws ++ [(q, x_N G n (fun _ => 0))]) → W p l e R s m args below meth c H1 locs (cells + 1) (slots + n) Q (F0 m (pc + 2) ls (.ref q :: rest))) : W p l e R s m args below meth c H locs cells slots Q (F0 m pc ls (.int (nI n) :: rest)) := by
  refine va_newa (D := G.1) (atype := .int) (ty := .int) (a0 := (n, .inl (nA (fun _ => 0)))) E.1 E.2.1 (E.2.2.2.2 _ harr) rfl B.1 B.2.1 B.2.2.1 B.2.2.2.1 B.2.2.2.2.2 (fun cA => ?_) (nI_pos (by omega)) (nI_clamp (by omega)) (by show n * 4 ≤ _; omega) hcells hslots hdg (fun q cA H1 hK hP hD hS => ?_)
  · show arrV cA n (fun j => .int (nI 0)) = arrV cA n (fun _ => .int 0)
    rw [nI_0]
  · have h1 := va_nm_int (hK.2 0 _ rfl).2
    have h2 := va_nm_int (hK.2 2 _ rfl).2
    rw [h1] at h2
    have e : G.2.1 = cA := Option.some.inj h2
    subst e
    exact kk q H1 ⟨B.1, hP, hD, hS, B.2.2.2.2⟩
end XR
end
section
section XC
variable {p : Program} {l : Launch} {e : Env} {R : Room} {s : State} {m : MethodId} {args : Array Value} {below : List Frame} {meth : Method} {c : Code} {H : Heap} {locs : List Loc} {cells slots : Nat} {Q : State → Prop}
variable {cc : ByteArray} {pc : Nat} {ls : Array Slot} {rest : List Value} {A : Nat → Prop} {a : Nat} {ws : va_W} {G : xG} {nL : Nat} {own : String}
theorem x_ro_t (B : xB G A s H locs ws) {r n : Nat} {f : Nat → Int32} (hT : x_R A s s.heap r n f) {w0 : va_W} (isC : List Nat) (hC : isC.map (fun i => ws[i]?) = w0.map some) : x_R (va_A w0 H.size) s H r n f :=
  (va_T.kept hT (fun a ha hn => B.2.2.2.1.2.1 a ha hn)).narrow (va_free B.2.2.1 B.2.2.2.1 B.2.2.2.2.2 isC hC)
theorem x_ro_w (B : xB G A s H locs ws) (q : Nat) {r n : Nat} {f : Nat → Int32} (he : ws[q]? = some (r, x_I G n f)) {w0 : va_W} (isC : List Nat) (hC : isC.map (fun i => ws[i]?) = w0.map some) (hq : q ∉ isC) : x_R (va_A w0 H.size) s H r n f := by
  have hc : H[r]? = some (arrV G.2.1 n (fun j => .int (f j))) := B.2.1 q _ he
  refine ⟨_, hc, (B.1.2 0 _ rfl).1 n _, (fun h => by cases h), by rw [arrV_size]; exact Nat.le_refl _, by rw [arrV_size], fun j hj => arrV_read _ _ hj, fun h => ?_⟩
  rcases h with ⟨k, e, hk⟩ | h
  · have h1 : (isC.map (fun i => ws[i]?))[k]? = some (some (r, e)) := by rw [hC, List.getElem?_map, hk]; rfl
    rw [List.getElem?_map] at h1
    obtain ⟨i, hi, hi2⟩ := Option.map_eq_some_iff.mp h1
    have := B.2.2.1.1 i q _ _ hi2 he rfl
    subst this
    exact hq (List.mem_of_getElem? hi)
  · exact absurd (Array.getElem?_eq_some_iff.mp hc).1 (Nat.not_lt.mpr h)
theorem x_pre (B : xB G A s H locs ws) {av : List Value} {ro : List (Nat × Nat × (Nat → Int32))} {w0 : va_W} (isC : List Nat) (hC : isC.map (fun i => ws[i]?) = w0.map some) (hn : va_nd isC = true) (hro : ∀ r ∈ ro, x_R (va_A w0 H.size) s H r.1 r.2.1 r.2.2) : PreS s H (va_Pc av (xPre G ro w0 H.size)) av := by
  refine ⟨xPre.blind, fun U hU hW => ⟨rfl, by rw [hU], ?_, va_K.moved hW.alike B.1, (B.2.2.1.sub isC hn hC).weaken (fun _ _ _ _ => trivial), ?_, fun r hr => ?_⟩⟩
  · rw [hU]
    exact (B.sub isC hn hC).2.1
  · rw [hU]
    exact B.2.2.2.2.1.go hW.alike (va_free B.2.2.1 B.2.2.2.1 B.2.2.2.2.2 isC hC) (fun a ha hn => B.2.2.2.1.2.1 a ha hn)
  · rw [hU]
    exact (hro r hr).moved hW.alike
theorem x_aft (B : xB G A s H locs ws) {w0 wr w1 ws' : va_W} (isC isR isP : List Nat) (hC : isC.map (fun i => ws[i]?) = w0.map some) (hR : isR.map (fun i => ws[i]?) = wr.map some) (hn : va_nd isR = true) (hdis : ∀ i ∈ isR, i ∉ isC) (hnP : va_nd isP = true) (hP : isP.map (fun i => (wr ++ w1)[i]?) = ws'.map some)
    {t : State} {H1 : Heap} {locs1 : List Loc} (ht : t.heap = H1) (hvm : s.vm.Alike t.vm) (hB : xPost G (va_A w0 H.size) w1 t) (hk1 : ∀ q : Nat, q < H.size → ¬ va_A w0 H.size q → H1[q]? = H[q]?) (hS : va_S A s.heap H1 locs1) : xB G A s H1 locs1 ws' := by
  obtain ⟨g1, g2, g3⟩ := hB
  rw [ht] at g1
  obtain ⟨k1, k2⟩ := va_join (wr := wr) (w1 := w1) B.2.1 B.2.2.1 isC isR hC hR hn hdis hk1 (va_free B.2.2.1 B.2.2.2.1 B.2.2.2.2.2 isC hC) g1 g3
  exact xB.sub ⟨B.1, k1, k2, hS, B.2.2.2.2⟩ isP hnP hP
theorem x_cv {S : Type} {post : S → Prop} {w1 ws' : S → va_W} {w0 wr : va_W} {mc ms : Nat} {st0 : List Value} {av : Array Value} (B : xB G A s H locs ws) (hr : va_Run p l e R s m args below meth c H locs cells slots mc ms (F0 m pc ls st0) rest (va_Qv post (fun u t => xPost G (va_A w0 H.size) (w1 u) t) (va_A w0 H.size) av) (va_A w0 H.size))
    (isC isR isP : List Nat) (hC : isC.map (fun i => ws[i]?) = w0.map some) (hR : isR.map (fun i => ws[i]?) = wr.map some) (hn : va_nd isR = true) (hdis : ∀ i ∈ isR, i ∉ isC) (hnP : va_nd isP = true) (hP : ∀ u, isP.map (fun i => (wr ++ w1 u)[i]?) = (ws' u).map some)
    (kk : ∀ (u : S) (H1 : Heap) (locs1 : List Loc), post u → xB G A s H1 locs1 (ws' u) → W p l e R s m args below meth c H1 locs1 (cells + mc) (slots + ms) Q (F0 m (pc + 3) ls rest)) : W p l e R s m args below meth c H locs cells slots Q (F0 m pc ls st0) :=
  have hF := va_free B.2.2.1 B.2.2.2.1 B.2.2.2.2.2 isC hC
  va_callv hr B.2.2.2.1 (fun q _ h => hF q h) hF (fun u t H1 locs1 ht hvm hw hB _ hk1 hS => kk u H1 locs1 hw (x_aft B isC isR isP hC hR hn hdis hnP (hP u) ht hvm hB hk1 hS))
theorem x_ci {S : Type} {post : Int32 → S → Prop} {w1 ws' : S → va_W} {w0 wr : va_W} {mc ms : Nat} {st0 : List Value} {av : Array Value} (B : xB G A s H locs ws) (hr : va_Run p l e R s m args below meth c H locs cells slots mc ms (F0 m pc ls st0) rest (va_Qi post (fun u t => xPost G (va_A w0 H.size) (w1 u) t) (va_A w0 H.size) av) (va_A w0 H.size))
    (isC isR isP : List Nat) (hC : isC.map (fun i => ws[i]?) = w0.map some) (hR : isR.map (fun i => ws[i]?) = wr.map some) (hn : va_nd isR = true) (hdis : ∀ i ∈ isR, i ∉ isC) (hnP : va_nd isP = true) (hP : ∀ u, isP.map (fun i => (wr ++ w1 u)[i]?) = (ws' u).map some)
    (kk : ∀ (r : Int32) (u : S) (H1 : Heap) (locs1 : List Loc), post r u → xB G A s H1 locs1 (ws' u) → W p l e R s m args below meth c H1 locs1 (cells + mc) (slots + ms) Q (F0 m (pc + 3) ls (.int r :: rest))) : W p l e R s m args below meth c H locs cells slots Q (F0 m pc ls st0) :=
  have hF := va_free B.2.2.1 B.2.2.2.1 B.2.2.2.2.2 isC hC
  va_calli hr B.2.2.2.1 (fun q _ h => hF q h) hF (fun r u t H1 locs1 ht hvm hw hB _ hk1 hS => kk r u H1 locs1 hw (x_aft B isC isR isP hC hR hn hdis hnP (hP u) ht hvm hB hk1 hS))
section XRUN
variable {y : MethodName} {cy : ByteArray} {maxL mc ms n index b q0 ci N : Nat} {ret : Option FieldType} {rm : Room} {Pc : Array Value → State → Prop} {Qc : Array Value → State → Outcome → State → Prop} {free : Addr → Prop} {C : String} {T : u_T} {ty : Nat → FieldType} {As st0 : List Value} {fs : List Value}
theorem x_rV (E : CallFix p m c cc nL s args gg_L own) (B : xB G A s H locs ws) (hM : Met l y (Cond.code y cy maxL ret :: gg_L) rm Pc Qc mc ms free) (hp : PreS s H Pc (.ref b :: As)) (q0 : Nat) (he : ws[q0]? = some (b, .inr (ci, fs))) (Kc : x_C ci C T N ty) (hg : GoodIn gg_L (wsV own index C y (Cond.code y cy maxL ret :: gg_L)))
    (hd : y.cls = C ∧ y.cls ≠ "java/lang/invoke/MethodHandle" ∧ y.cls ≠ "java/lang/invoke/VarHandle" ∧ (parseMethodDescriptor y.desc).map (fun d => d.parameters.length) = some n) (hrc : rm.cells = mc) (hrs : rm.slots = ms) (hR : rm.frames + 1 ≤ R.frames ∧ 8 + (maxL + 11) + rm.locals ≤ R.locals) (hn : As.length = n) (hsz : ls.size = nL) (hst : st0 = As.reverse ++ .ref b :: rest) (hW : (rest.map fun v => v.category).sum ≤ 8) (hdg : decode cc pc = .ok (.invokevirtual index, 3)) (hf : cells + mc ≤ R.cells ∧ slots + ms ≤ R.slots) :
    va_Run p l e R s m args below meth c H locs cells slots mc ms (F0 m pc ls st0) rest (Qc (Value.ref b :: As).toArray) free :=
  va_runV E hM (cwV n E.2.2.2.2 hg rfl hrc hrs hd hR) ⟨hp.1, va_recv B.1 B.2.1 Kc.1 he, hp.2⟩ rfl hn hsz hst (lv_room hW) hdg hf
theorem x_rS (E : CallFix p m c cc nL s args gg_L own) (hM : Met l y (Cond.code y cy maxL ret :: gg_L) rm Pc Qc mc ms free) (hp : PreS s H Pc As) (hg : GoodIn gg_L (va_wsS own index y (Cond.code y cy maxL ret :: gg_L)))
    (hd : y.cls ≠ "java/lang/invoke/MethodHandle" ∧ y.cls ≠ "java/lang/invoke/VarHandle" ∧ (parseMethodDescriptor y.desc).map (fun d => d.parameters.length) = some n) (hrc : rm.cells = mc) (hrs : rm.slots = ms) (hR : rm.frames + 1 ≤ R.frames ∧ 8 + (maxL + 11) + rm.locals ≤ R.locals) (hn : As.length = n) (hsz : ls.size = nL) (hst : st0 = As.reverse ++ rest) (hW : (rest.map fun v => v.category).sum ≤ 8) (hdg : decode cc pc = .ok (.invokestatic index, 3)) (hf : cells + mc ≤ R.cells ∧ slots + ms ≤ R.slots) :
    va_Run p l e R s m args below meth c H locs cells slots mc ms (F0 m pc ls st0) rest (Qc As.toArray) free :=
  va_runS E hM (va_cwS n E.2.2.2.2 hg rfl hrc hrs hd hR) hp rfl hn hsz hst (lv_room hW) hdg hf
theorem x_rI (E : CallFix p m c cc nL s args gg_L own) (hM : Met l y (Cond.code y cy maxL none :: gg_L) rm Pc Qc mc ms free) (hp : PreS s H Pc (.ref b :: As)) (hc : Cond.code y cy maxL none ∈ gg_L) (hini : Cond.initialized y.cls ∈ gg_L) (hl : Cond.methodLink own index y ∈ gg_L) (hi : Cond.instanceMethod y ∈ gg_L) (hnm : y.name = "<init>")
    (hd : y.cls ≠ "java/lang/invoke/MethodHandle" ∧ y.cls ≠ "java/lang/invoke/VarHandle" ∧ (parseMethodDescriptor y.desc).map (fun d => d.parameters.length) = some n) (hrc : rm.cells = mc) (hrs : rm.slots = ms) (hR : rm.frames + 1 ≤ R.frames ∧ 8 + (maxL + 11) + rm.locals ≤ R.locals) (hn : As.length = n) (hsz : ls.size = nL) (hst : st0 = As.reverse ++ .ref b :: rest) (hW : (rest.map fun v => v.category).sum ≤ 8) (hdg : decode cc pc = .ok (.invokespecial index, 3)) (hf : cells + mc ≤ R.cells ∧ slots + ms ≤ R.slots) :
    va_Run p l e R s m args below meth c H locs cells slots mc ms (F0 m pc ls st0) rest (Qc (Value.ref b :: As).toArray) free :=
  va_runI E hM (cwI n E.2.2.2.2 (gg_I hc) rfl hrc hrs (E.2.2.2.2 _ hini) (E.2.2.2.2 _ hl) (E.2.2.2.2 _ hi) hnm hd hR) hp rfl hn hsz hst (lv_room hW) hdg hf
end XRUN
/-- a function that is called: the heap stays -/
theorem x_cf {r : Int32} {st0 : List Value} {av : Array Value} (hr : va_Run p l e R s m args below meth c H locs cells slots 0 0 (F0 m pc ls st0) rest (k2_QcV (.int r) av) (fun _ => False)) (kk : W p l e R s m args below meth c H locs cells slots Q (F0 m (pc + 3) ls (.int r :: rest))) : W p l e R s m args below meth c H locs cells slots Q (F0 m pc ls st0) := W.callV hr.run kk
theorem x_pf {av : List Value} : PreS s H (va_Pc av (fun _ => True)) av := ⟨fun _ _ _ _ q => q, fun _ _ _ => ⟨rfl, trivial⟩⟩
/-- ends -/
theorem x_vret {S : Type} {post : S → Prop} {w1 : S → va_W} (E : CallFix p m c cc nL s args gg_L own) (hr : meth.sig.returnType = none) (hlocks : meth.locks = false) {u : S} (B : xB G A s H locs (w1 u)) (hp : post u) (hdg : decode cc pc = .ok (.return_, 1)) : W p l e R s m args below meth c H locs cells slots (MQ below (va_Qv post (fun u t => xPost G A (w1 u) t) A) args s cells slots A) (F0 m pc ls []) :=
  W.vret E.1 E.2.1 hr (fun t ht hW => ⟨⟨u, rfl, hp, by rw [ht]; exact B.2.1, va_K.moved hW.alike B.1, B.2.2.1⟩, B.2.2.2.1.F ht⟩) B.2.2.2.1.2.2 hdg hlocks
theorem x_iret {S : Type} {post : Int32 → S → Prop} {w1 : S → va_W} (E : CallFix p m c cc nL s args gg_L own) (hr : meth.sig.returnType = some .int) (hlocks : meth.locks = false) {u : S} {v : Int32} (B : xB G A s H locs (w1 u)) (hp : post v u) (hdg : decode cc pc = .ok (.ireturn, 1)) : W p l e R s m args below meth c H locs cells slots (MQ below (va_Qi post (fun u t => xPost G A (w1 u) t) A) args s cells slots A) (F0 m pc ls [.int v]) :=
  W.iret E.1 E.2.1 hr (fun t ht hW => ⟨⟨v, u, rfl, hp, by rw [ht]; exact B.2.1, va_K.moved hW.alike B.1, B.2.2.1⟩, B.2.2.2.1.F ht⟩) B.2.2.2.1.2.2 hdg hlocks
theorem x_zret {S : Type} {post : Int32 → S → Prop} {w1 : S → va_W} (E : CallFix p m c cc nL s args gg_L own) (hr : meth.sig.returnType = some .boolean) (hlocks : meth.locks = false) {u : S} {v : Int32} (hv : narrow .boolean (.int v) = .int v) (B : xB G A s H locs (w1 u)) (hp : post v u) (hdg : decode cc pc = .ok (.ireturn, 1)) : W p l e R s m args below meth c H locs cells slots (MQ below (va_Qi post (fun u t => xPost G A (w1 u) t) A) args s cells slots A) (F0 m pc ls [.int v]) :=
  W.zret E.1 E.2.1 hr hv (fun t ht hW => ⟨⟨v, u, rfl, hp, by rw [ht]; exact B.2.1, va_K.moved hW.alike B.1, B.2.2.1⟩, B.2.2.2.1.F ht⟩) B.2.2.2.1.2.2 hdg hlocks
theorem x_fret {v r : Int32} (E : CallFix p m c cc nL s args gg_L own) (hr : meth.sig.returnType = some .int) (hlocks : meth.locks = false) (hv : v = r) (hdg : decode cc pc = .ok (.ireturn, 1)) : W p l e R s m args below meth c s.heap [] 0 0 (MQ below (k2_QcV (.int r)) args s 0 0 (fun _ => False)) (F0 m pc ls [.int v]) := by
  subst hv
  exact W.iret E.1 E.2.1 hr (fun t ht _ => ⟨rfl, ht⟩) (fun q h => by cases h) hdg hlocks
theorem x_fretz {v r : Int32} (E : CallFix p m c cc nL s args gg_L own) (hr : meth.sig.returnType = some .boolean) (hlocks : meth.locks = false) (hb : narrow .boolean (.int v) = .int v) (hv : v = r) (hdg : decode cc pc = .ok (.ireturn, 1)) : W p l e R s m args below meth c s.heap [] 0 0 (MQ below (k2_QcV (.int r)) args s 0 0 (fun _ => False)) (F0 m pc ls [.int v]) := by
  subst hv
  exact W.zret E.1 E.2.1 hr hb (fun t ht _ => ⟨rfl, ht⟩) (fun q h => by cases h) hdg hlocks
theorem x_oi (E : CallFix p m c cc nL s args gg_L own) {index : Nat} (hlink : Cond.methodLink own index objectInit ∈ gg_L) (hinst : Cond.instanceMethod objectInit ∈ gg_L) (hcode : Cond.code objectInit ⟨#[0xb1]⟩ 1 none ∈ gg_L) (hsz : ls.size = nL) (hd : decode cc pc = .ok (.invokespecial index, 3)) (hframes : 1 ≤ R.frames) (hlocals : (rest.map fun v => v.category).sum + 12 ≤ R.locals) (kk : W p l e R s m args below meth c H locs cells slots Q (F0 m (pc + 3) ls rest)) : W p l e R s m args below meth c H locs cells slots Q (F0 m pc ls (.ref a :: rest)) :=
  W.objInit E.1 E.2.1 E.2.2.2.1 (E.2.2.2.2 _ hlink) (E.2.2.2.2 _ hinst) (E.2.2.2.2 _ hcode) rfl (by rw [E.2.2.1]; exact hsz) rfl hd hframes (by show 2 * 0 + _ + 12 ≤ _; omega) kk
/-- arraycopy of ints, in the world -/
theorem x_cpy (E : CallFix p m c cc nL s args gg_L own) (B : xB G A s H locs ws) {index : Nat} (hlink : Cond.methodLink own index arraycopyName ∈ gg_L) (hnat : Cond.native arraycopyName ∈ gg_L) (hstat : Cond.static arraycopyName ∈ gg_L) (hini : Cond.initialized "java/lang/System" ∈ gg_L) (q0 q1 : Nat) {a0 n0 n1 : Nat} {f g : Nat → Int32} (ha0 : ws[q0]? = some (a0, x_I G n0 f)) (ha1 : ws[q1]? = some (a, x_I G n1 g)) {sp dp n : Nat} (h4 : sp + n ≤ n0) (h5 : dp + n ≤ n1) (hb0 : n0 < 2 ^ 31) (hb1 : n1 < 2 ^ 31) (hsz : ls.size = nL) (hframes : 1 ≤ R.frames) (hlocals : (rest.map fun v => v.category).sum + (nativeFrameWords "java/lang/System" "arraycopy" 5 + 11) ≤ R.locals) (hdg : decode cc pc = .ok (.invokestatic index, 3))
    (kk : ∀ (H1 : Heap) (locs1 : List Loc), xB G A s H1 locs1 (ws.set q1 (a, x_I G n1 (va_cpy f g sp dp n))) → W p l e R s m args below meth c H1 locs1 cells slots Q (F0 m (pc + 3) ls rest)) : W p l e R s m args below meth c H locs cells slots Q (F0 m pc ls (.int (nI n) :: .int (nI dp) :: .ref a :: .int (nI sp) :: .ref a0 :: rest)) := by
  have e1 : (nI sp).toNatClampNeg = sp := nI_clamp (by omega)
  have e2 : (nI dp).toNatClampNeg = dp := nI_clamp (by omega)
  have e3 : (nI n).toNatClampNeg = n := nI_clamp (by omega)
  refine va_copyi (D := G.1) (ty := .int) E.1 E.2.1 (E.2.2.1.trans hsz.symm) E.2.2.2.1 (E.2.2.2.2 _ hlink) (E.2.2.2.2 _ hnat) (E.2.2.2.2 _ hstat) (E.2.2.2.2 _ hini) B.1 B.2.1 B.2.2.1 B.2.2.2.1 q0 q1 0 0 ha0 ha1 rfl rfl rfl (nI_pos (by omega)) (nI_pos (by omega)) (nI_pos (by omega)) (by rw [e1, e3]; exact h4) (by rw [e2, e3]; exact h5) (fun _ _ => rfl) hframes hlocals hdg (fun H1 l1 h1 h2 h3 => ?_)
  rw [e1, e2, e3] at h1 h2
  exact kk H1 l1 ⟨B.1, h1, h2, h3, B.2.2.2.2⟩
end XC
end
section
section XCT
variable {p : Program} {l : Launch} {e : Env} {R : Room} {s : State} {m : MethodId} {args : Array Value} {below : List Frame} {meth : Method} {c : Code} {H : Heap} {locs : List Loc} {cells slots : Nat} {Q : State → Prop}
variable {cc : ByteArray} {pc : Nat} {ls : Array Slot} {rest : List Value} {A : Nat → Prop} {a : Nat} {ws : va_W} {G : xG} {nL : Nat} {own : String}
/-- arraycopy of ints out of a row that is only read -/
theorem x_cpt (E : CallFix p m c cc nL s args gg_L own) (B : xB G A s H locs ws) {index : Nat} (hlink : Cond.methodLink own index arraycopyName ∈ gg_L) (hnat : Cond.native arraycopyName ∈ gg_L) (hstat : Cond.static arraycopyName ∈ gg_L) (hini : Cond.initialized "java/lang/System" ∈ gg_L) {a0 n0 : Nat} {f : Nat → Int32} (hT : x_R A s s.heap a0 n0 f) (q1 : Nat) {n1 : Nat} {g : Nat → Int32} (ha1 : ws[q1]? = some (a, x_I G n1 g)) {sp dp n : Nat} (h4 : sp + n ≤ n0) (h5 : dp + n ≤ n1) (hb0 : n0 < 2 ^ 31) (hb1 : n1 < 2 ^ 31) (hsz : ls.size = nL) (hframes : 1 ≤ R.frames) (hlocals : (rest.map fun v => v.category).sum + (nativeFrameWords "java/lang/System" "arraycopy" 5 + 11) ≤ R.locals) (hdg : decode cc pc = .ok (.invokestatic index, 3))
    (kk : ∀ (H1 : Heap) (locs1 : List Loc), xB G A s H1 locs1 (ws.set q1 (a, x_I G n1 (va_cpy f g sp dp n))) → W p l e R s m args below meth c H1 locs1 cells slots Q (F0 m (pc + 3) ls rest)) : W p l e R s m args below meth c H locs cells slots Q (F0 m pc ls (.int (nI n) :: .int (nI dp) :: .ref a :: .int (nI sp) :: .ref a0 :: rest)) := by
  have e1 : (nI sp).toNatClampNeg = sp := nI_clamp (by omega)
  have e2 : (nI dp).toNatClampNeg = dp := nI_clamp (by omega)
  have e3 : (nI n).toNatClampNeg = n := nI_clamp (by omega)
  have i1 : (nI sp).toInt = (sp : Int) := nI_toInt (by omega)
  have i2 : (nI dp).toInt = (dp : Int) := nI_toInt (by omega)
  have i3 : (nI n).toInt = (n : Int) := nI_toInt (by omega)
  intro T hT' X
  obtain ⟨hK, hP, hD, hS, hrest⟩ := B
  obtain ⟨scr, hs1, hs2, hs3, hs4, -, hs5, hs7⟩ := hT
  have hc0 : H[a0]? = some scr := by rw [hS.2.1 a0 (Array.getElem?_eq_some_iff.mp hs1).1 hs7]; exact hs1
  have hc1 : H[a]? = some (vp_cell G.2.1 (n1, .inl g)) := hP q1 _ ha1
  obtain ⟨hs6, k0, hk0, cm0, hkk0⟩ := hs2
  obtain ⟨-, k1, hk1, cm1, hkk1⟩ := (hK.2 0 _ rfl).1 n1 (fun j => .int (g j))
  obtain ⟨vm', X', step⟩ := X.arraycopy E.1 E.2.2.2.1 (E.2.2.2.2 _ hlink) (E.2.2.2.2 _ hnat) (E.2.2.2.2 _ hstat) (E.2.2.2.2 _ hini) (src := a0) (dst := a) (cs := scr) (cd := vp_cell G.2.1 (n1, .inl g)) (srcPos := nI sp) (destPos := nI dp) (n := nI n) (by rw [hT']; exact hc0) (by rw [hT']; exact hc1)
    hs6 (fun _ h => by cases h) hs3 (fun h => by cases h) hk0 hk1 hkk0 hkk1 (by simp [refKind]) (nI_pos (by omega)) (nI_pos (by omega)) (nI_pos (by omega))
    (by rw [i1, i3]; omega)
    (by rw [i2, i3]; show ¬ _ > ((arrV G.2.1 n1 (fun j => .int (g j))).slots.size : Int); rw [arrV_size]; omega)
    (fun vm₁ _ i hi => by
      rw [e3] at hi
      have e : scr.slots.getD ((nI sp).toNatClampNeg + i) .null = .int (f (sp + i)) := by
        rw [e1, Array.getD_eq_getD_getElem?, hs5 _ (by omega)]
        rfl
      refine ⟨?_, ?_⟩
      · rw [e]; rfl
      · rw [e]
        exact trivial)
    (g := F0 m pc ls (.int (nI n) :: .int (nI dp) :: .ref a :: .int (nI sp) :: .ref a0 :: rest)) rfl (by rw [E.2.2.1]; exact hsz) (rest := rest) rfl (by rw [E.2.1]; exact hdg) hframes (by show 2 * 0 + _ + _ ≤ _; omega)
  have e4 : copied scr (vp_cell G.2.1 (n1, .inl g)) (nI sp) (nI dp) (nI n) = vp_cell G.2.1 (n1, .inl (va_cpy f g sp dp n)) := by
    have h := va_copiedX (n1 := n1) (dp := dp) (fun z => Value.int z) scr G.2.1 f g hs5 h4
    rw [← e1, ← e2, ← e3] at h
    rw [e1, e2, e3] at h
    unfold copied
    rw [e1, e2, e3]
    exact h
  rw [e4] at X' step
  have hl : a < H.size := (Array.getElem?_eq_some_iff.mp hc1).1
  have hheap : ((T.setVm vm').setCell a (vp_cell G.2.1 (n1, .inl (va_cpy f g sp dp n)))).heap = H.setIfInBounds a (vp_cell G.2.1 (n1, .inl (va_cpy f g sp dp n))) := by rw [← hT']; rfl
  have oq : ∀ q : Nat, q ≠ a → (H.setIfInBounds a (vp_cell G.2.1 (n1, .inl (va_cpy f g sp dp n))))[q]? = H[q]? := fun q hq => by simp [Array.getElem?_setIfInBounds, Ne.symm hq]
  obtain ⟨t, a1, b1⟩ := kk _ _ ⟨hK, hP.set hD ha1 (show (H.setIfInBounds a _)[a]? = some _ by simp [Array.getElem?_setIfInBounds, hl]) oq, hD.set ha1, ⟨by simp; exact hS.1, fun q g1 g2 => by
      rw [oq q (fun e => g2 (by rw [e]; exact hD.2 q1 _ ha1))]
      exact hS.2.1 q g1 g2, fun q hq => by
      rcases List.mem_append.mp hq with h | h
      · exact hS.2.2 q h
      · obtain ⟨z, -, hz⟩ := List.mem_map.mp h
        rw [← hz]
        exact hD.2 q1 _ ha1⟩, hrest⟩ _ hheap X'
  exact ⟨t, step t a1, b1⟩
end XCT
end
section
theorem x_ro0 {P : (Nat × Nat × (Nat → Int32)) → Prop} : ∀ r ∈ ([] : List (Nat × Nat × (Nat → Int32))), P r := fun _ h => absurd h List.not_mem_nil
theorem x_ro1 {P : (Nat × Nat × (Nat → Int32)) → Prop} {a : Nat × Nat × (Nat → Int32)} (h : P a) : ∀ r ∈ [a], P r := fun r hr => by
  rw [List.mem_singleton.mp hr]
  exact h
section XO
variable {G : xG} {l : Launch} {y : MethodName} {cc : ByteArray} {nL : Nat} {ret : FieldType} {rm : Room} {av : List Value} {ro : List (Nat × Nat × (Nat → Int32))} {w0 : va_W} {S : Type} {mc ms : Nat} {own : String}
theorem xMv.by {post : S → Prop} {w1 : S → va_W} (own : String) (hy : plainName y.cls = true) (hs : (lg_sl av).length ≤ nL) (ho : y.cls = own)
    (body : ∀ (p : Program) (e : Env) (s : State) (m : MethodId) (args : Array Value) (below : List Frame) (meth : Method) (c : Code) (A : Nat → Prop) (ls : Array Slot) (Q : State → Prop), CallFix p m c cc nL s args gg_L own → meth.name = y.name → xB G A s s.heap [] w0 → (∀ r ∈ ro, x_R A s s.heap r.1 r.2.1 r.2.2) → lv_has ls nL (lv_args 0 av) →
      (∀ (u : S) (H : Heap) (locs : List Loc) (pc : Nat) (ls : Array Slot), xB G A s H locs (w1 u) → post u → decode cc pc = .ok (.return_, 1) → W p l e rm s m args below meth c H locs mc ms Q (F0 m pc ls [])) →
      W p l e rm s m args below meth c s.heap [] 0 0 Q (F0 m 0 ls [])) : xMv G l y cc nL rm av ro w0 S post w1 mc ms :=
  xMv.of hy hs ho (fun p e s m below meth c A ls E hr hk hn B hro hl => body p e s m _ below meth c A ls _ E hn B hro hl (fun u H locs pc ls B hp hd => x_vret E hr hk B hp hd))
theorem xMi.by {post : Int32 → S → Prop} {w1 : S → va_W} (own : String) (hy : plainName y.cls = true) (hs : (lg_sl av).length ≤ nL) (ho : y.cls = own)
    (body : ∀ (p : Program) (e : Env) (s : State) (m : MethodId) (args : Array Value) (below : List Frame) (meth : Method) (c : Code) (A : Nat → Prop) (ls : Array Slot) (Q : State → Prop), CallFix p m c cc nL s args gg_L own → xB G A s s.heap [] w0 → (∀ r ∈ ro, x_R A s s.heap r.1 r.2.1 r.2.2) → lv_has ls nL (lv_args 0 av) →
      (∀ (v : Int32) (u : S) (H : Heap) (locs : List Loc) (pc : Nat) (ls : Array Slot), xB G A s H locs (w1 u) → post v u → decode cc pc = .ok (.ireturn, 1) → W p l e rm s m args below meth c H locs mc ms Q (F0 m pc ls [.int v])) →
      W p l e rm s m args below meth c s.heap [] 0 0 Q (F0 m 0 ls [])) : xMi G l y cc nL .int rm av ro w0 S post w1 mc ms :=
  xMi.of hy hs ho (fun p e s m below meth c A ls E hr hk hn B hro hl => body p e s m _ below meth c A ls _ E B hro hl (fun v u H locs pc ls B hp hd => x_iret E hr hk B hp hd))
theorem xMz.by {post : Int32 → S → Prop} {w1 : S → va_W} (own : String) (hy : plainName y.cls = true) (hs : (lg_sl av).length ≤ nL) (ho : y.cls = own)
    (body : ∀ (p : Program) (e : Env) (s : State) (m : MethodId) (args : Array Value) (below : List Frame) (meth : Method) (c : Code) (A : Nat → Prop) (ls : Array Slot) (Q : State → Prop), CallFix p m c cc nL s args gg_L own → xB G A s s.heap [] w0 → (∀ r ∈ ro, x_R A s s.heap r.1 r.2.1 r.2.2) → lv_has ls nL (lv_args 0 av) →
      (∀ (v : Int32) (u : S) (H : Heap) (locs : List Loc) (pc : Nat) (ls : Array Slot), xB G A s H locs (w1 u) → post v u → narrow .boolean (.int v) = .int v → decode cc pc = .ok (.ireturn, 1) → W p l e rm s m args below meth c H locs mc ms Q (F0 m pc ls [.int v])) →
      W p l e rm s m args below meth c s.heap [] 0 0 Q (F0 m 0 ls [])) : xMi G l y cc nL .boolean rm av ro w0 S post w1 mc ms :=
  xMi.of hy hs ho (fun p e s m below meth c A ls E hr hk hn B hro hl => body p e s m _ below meth c A ls _ E B hro hl (fun v u H locs pc ls B hp hv hd => x_zret E hr hk hv B hp hd))
theorem xMr.by {r : Int32} (own : String) (hy : plainName y.cls = true) (hs : (lg_sl av).length ≤ nL) (ho : y.cls = own)
    (body : ∀ (p : Program) (e : Env) (s : State) (m : MethodId) (args : Array Value) (below : List Frame) (meth : Method) (c : Code) (A : Nat → Prop) (ls : Array Slot) (Q : State → Prop), CallFix p m c cc nL s args gg_L own → xB G A s s.heap [] w0 → (∀ r ∈ ro, x_R A s s.heap r.1 r.2.1 r.2.2) → lv_has ls nL (lv_args 0 av) →
      (∀ (v : Int32) (pc : Nat) (ls : Array Slot), v = r → decode cc pc = .ok (.ireturn, 1) → W p l e rm s m args below meth c s.heap [] 0 0 Q (F0 m pc ls [.int v])) →
      W p l e rm s m args below meth c s.heap [] 0 0 Q (F0 m 0 ls [])) : xMr G l y cc nL .int rm av ro w0 r :=
  xMr.of hy hs ho (fun p e s m below meth c A ls E hr hk hn B hro hl => body p e s m _ below meth c A ls _ E B hro hl (fun v pc ls hv hd => x_fret E hr hk hv hd))
theorem xMrz.by {r : Int32} (own : String) (hy : plainName y.cls = true) (hs : (lg_sl av).length ≤ nL) (ho : y.cls = own)
    (body : ∀ (p : Program) (e : Env) (s : State) (m : MethodId) (args : Array Value) (below : List Frame) (meth : Method) (c : Code) (A : Nat → Prop) (ls : Array Slot) (Q : State → Prop), CallFix p m c cc nL s args gg_L own → xB G A s s.heap [] w0 → (∀ r ∈ ro, x_R A s s.heap r.1 r.2.1 r.2.2) → lv_has ls nL (lv_args 0 av) →
      (∀ (v : Int32) (pc : Nat) (ls : Array Slot), v = r → narrow .boolean (.int v) = .int v → decode cc pc = .ok (.ireturn, 1) → W p l e rm s m args below meth c s.heap [] 0 0 Q (F0 m pc ls [.int v])) →
      W p l e rm s m args below meth c s.heap [] 0 0 Q (F0 m 0 ls [])) : xMr G l y cc nL .boolean rm av ro w0 r :=
  xMr.of hy hs ho (fun p e s m below meth c A ls E hr hk hn B hro hl => body p e s m _ below meth c A ls _ E B hro hl (fun v pc ls hv hz hd => x_fretz E hr hk hz hv hd))
theorem xMf.by {r : Int32} (own : String) (hy : plainName y.cls = true) (hs : (lg_sl av).length ≤ nL) (ho : y.cls = own)
    (body : ∀ (p : Program) (e : Env) (s : State) (m : MethodId) (args : Array Value) (below : List Frame) (meth : Method) (c : Code) (ls : Array Slot) (Q : State → Prop), CallFix p m c cc nL s args gg_L own → lv_has ls nL (lv_args 0 av) →
      (∀ (v : Int32) (pc : Nat) (ls : Array Slot), v = r → decode cc pc = .ok (.ireturn, 1) → W p l e rm s m args below meth c s.heap [] 0 0 Q (F0 m pc ls [.int v])) →
      W p l e rm s m args below meth c s.heap [] 0 0 Q (F0 m 0 ls [])) : xMf l y cc nL .int rm av r :=
  xMf.of hy hs ho (fun p e s m below meth c ls E hr hk hl => body p e s m _ below meth c ls _ E hl (fun v pc ls hv hd => x_fret E hr hk hv hd))
theorem xMfz.by {r : Int32} (own : String) (hy : plainName y.cls = true) (hs : (lg_sl av).length ≤ nL) (ho : y.cls = own)
    (body : ∀ (p : Program) (e : Env) (s : State) (m : MethodId) (args : Array Value) (below : List Frame) (meth : Method) (c : Code) (ls : Array Slot) (Q : State → Prop), CallFix p m c cc nL s args gg_L own → lv_has ls nL (lv_args 0 av) →
      (∀ (v : Int32) (pc : Nat) (ls : Array Slot), v = r → narrow .boolean (.int v) = .int v → decode cc pc = .ok (.ireturn, 1) → W p l e rm s m args below meth c s.heap [] 0 0 Q (F0 m pc ls [.int v])) →
      W p l e rm s m args below meth c s.heap [] 0 0 Q (F0 m 0 ls [])) : xMf l y cc nL .boolean rm av r :=
  xMf.of hy hs ho (fun p e s m below meth c ls E hr hk hl => body p e s m _ below meth c ls _ E hl (fun v pc ls hv hz hd => x_fretz E hr hk hz hv hd))
end XO
end
section
theorem p_Ci_new : y_Ci_new.cls ≠ "java/lang/invoke/MethodHandle" ∧ y_Ci_new.cls ≠ "java/lang/invoke/VarHandle" ∧ (parseMethodDescriptor y_Ci_new.desc).map (fun d => d.parameters.length) = some 0 := by decide +kernel
theorem p_Ci_takeKey : y_Ci_takeKey.cls ≠ "java/lang/invoke/MethodHandle" ∧ y_Ci_takeKey.cls ≠ "java/lang/invoke/VarHandle" ∧ (parseMethodDescriptor y_Ci_takeKey.desc).map (fun d => d.parameters.length) = some 1 := by decide +kernel
theorem p_Ci_makeTurnedWord : y_Ci_makeTurnedWord.cls ≠ "java/lang/invoke/MethodHandle" ∧ y_Ci_makeTurnedWord.cls ≠ "java/lang/invoke/VarHandle" ∧ (parseMethodDescriptor y_Ci_makeTurnedWord.desc).map (fun d => d.parameters.length) = some 2 := by decide +kernel
theorem p_Ci_encrypt : y_Ci_encrypt.cls ≠ "java/lang/invoke/MethodHandle" ∧ y_Ci_encrypt.cls ≠ "java/lang/invoke/VarHandle" ∧ (parseMethodDescriptor y_Ci_encrypt.desc).map (fun d => d.parameters.length) = some 3 := by decide +kernel
theorem p_Ci_addRoundKey : y_Ci_addRoundKey.cls ≠ "java/lang/invoke/MethodHandle" ∧ y_Ci_addRoundKey.cls ≠ "java/lang/invoke/VarHandle" ∧ (parseMethodDescriptor y_Ci_addRoundKey.desc).map (fun d => d.parameters.length) = some 1 := by decide +kernel
theorem p_Ci_substituteAndMove : y_Ci_substituteAndMove.cls ≠ "java/lang/invoke/MethodHandle" ∧ y_Ci_substituteAndMove.cls ≠ "java/lang/invoke/VarHandle" ∧ (parseMethodDescriptor y_Ci_substituteAndMove.desc).map (fun d => d.parameters.length) = some 0 := by decide +kernel
theorem p_Ci_mixColumns : y_Ci_mixColumns.cls ≠ "java/lang/invoke/MethodHandle" ∧ y_Ci_mixColumns.cls ≠ "java/lang/invoke/VarHandle" ∧ (parseMethodDescriptor y_Ci_mixColumns.desc).map (fun d => d.parameters.length) = some 0 := by decide +kernel
theorem p_Ci_timesX : y_Ci_timesX.cls ≠ "java/lang/invoke/MethodHandle" ∧ y_Ci_timesX.cls ≠ "java/lang/invoke/VarHandle" ∧ (parseMethodDescriptor y_Ci_timesX.desc).map (fun d => d.parameters.length) = some 1 := by decide +kernel
theorem p_Dg_new : y_Dg_new.cls ≠ "java/lang/invoke/MethodHandle" ∧ y_Dg_new.cls ≠ "java/lang/invoke/VarHandle" ∧ (parseMethodDescriptor y_Dg_new.desc).map (fun d => d.parameters.length) = some 0 := by decide +kernel
theorem p_Dg_twice : y_Dg_twice.cls ≠ "java/lang/invoke/MethodHandle" ∧ y_Dg_twice.cls ≠ "java/lang/invoke/VarHandle" ∧ (parseMethodDescriptor y_Dg_twice.desc).map (fun d => d.parameters.length) = some 4 := by decide +kernel
theorem p_Dg_digest : y_Dg_digest.cls ≠ "java/lang/invoke/MethodHandle" ∧ y_Dg_digest.cls ≠ "java/lang/invoke/VarHandle" ∧ (parseMethodDescriptor y_Dg_digest.desc).map (fun d => d.parameters.length) = some 2 := by decide +kernel
theorem p_Dg_takeWords : y_Dg_takeWords.cls ≠ "java/lang/invoke/MethodHandle" ∧ y_Dg_takeWords.cls ≠ "java/lang/invoke/VarHandle" ∧ (parseMethodDescriptor y_Dg_takeWords.desc).map (fun d => d.parameters.length) = some 4 := by decide +kernel
theorem p_Dg_filledByte : y_Dg_filledByte.cls ≠ "java/lang/invoke/MethodHandle" ∧ y_Dg_filledByte.cls ≠ "java/lang/invoke/VarHandle" ∧ (parseMethodDescriptor y_Dg_filledByte.desc).map (fun d => d.parameters.length) = some 4 := by decide +kernel
theorem p_Dg_spreadWords : y_Dg_spreadWords.cls ≠ "java/lang/invoke/MethodHandle" ∧ y_Dg_spreadWords.cls ≠ "java/lang/invoke/VarHandle" ∧ (parseMethodDescriptor y_Dg_spreadWords.desc).map (fun d => d.parameters.length) = some 0 := by decide +kernel
theorem p_Dg_mixWords : y_Dg_mixWords.cls ≠ "java/lang/invoke/MethodHandle" ∧ y_Dg_mixWords.cls ≠ "java/lang/invoke/VarHandle" ∧ (parseMethodDescriptor y_Dg_mixWords.desc).map (fun d => d.parameters.length) = some 0 := by decide +kernel
theorem p_Dg_handOut : y_Dg_handOut.cls ≠ "java/lang/invoke/MethodHandle" ∧ y_Dg_handOut.cls ≠ "java/lang/invoke/VarHandle" ∧ (parseMethodDescriptor y_Dg_handOut.desc).map (fun d => d.parameters.length) = some 2 := by decide +kernel
theorem p_Dk_new : y_Dk_new.cls ≠ "java/lang/invoke/MethodHandle" ∧ y_Dk_new.cls ≠ "java/lang/invoke/VarHandle" ∧ (parseMethodDescriptor y_Dk_new.desc).map (fun d => d.parameters.length) = some 0 := by decide +kernel
theorem p_Dk_tellCrash : y_Dk_tellCrash.cls ≠ "java/lang/invoke/MethodHandle" ∧ y_Dk_tellCrash.cls ≠ "java/lang/invoke/VarHandle" ∧ (parseMethodDescriptor y_Dk_tellCrash.desc).map (fun d => d.parameters.length) = some 1 := by decide +kernel
theorem p_Dk_seedPlace : y_Dk_seedPlace.cls ≠ "java/lang/invoke/MethodHandle" ∧ y_Dk_seedPlace.cls ≠ "java/lang/invoke/VarHandle" ∧ (parseMethodDescriptor y_Dk_seedPlace.desc).map (fun d => d.parameters.length) = some 0 := by decide +kernel
theorem p_Dk_store : y_Dk_store.cls ≠ "java/lang/invoke/MethodHandle" ∧ y_Dk_store.cls ≠ "java/lang/invoke/VarHandle" ∧ (parseMethodDescriptor y_Dk_store.desc).map (fun d => d.parameters.length) = some 1 := by decide +kernel
theorem p_Dk_write : y_Dk_write.cls ≠ "java/lang/invoke/MethodHandle" ∧ y_Dk_write.cls ≠ "java/lang/invoke/VarHandle" ∧ (parseMethodDescriptor y_Dk_write.desc).map (fun d => d.parameters.length) = some 2 := by decide +kernel
theorem p_Ge_new : y_Ge_new.cls ≠ "java/lang/invoke/MethodHandle" ∧ y_Ge_new.cls ≠ "java/lang/invoke/VarHandle" ∧ (parseMethodDescriptor y_Ge_new.desc).map (fun d => d.parameters.length) = some 0 := by decide +kernel
theorem p_Ge_reset : y_Ge_reset.cls ≠ "java/lang/invoke/MethodHandle" ∧ y_Ge_reset.cls ≠ "java/lang/invoke/VarHandle" ∧ (parseMethodDescriptor y_Ge_reset.desc).map (fun d => d.parameters.length) = some 0 := by decide +kernel
theorem p_Ge_isSeeded : y_Ge_isSeeded.cls ≠ "java/lang/invoke/MethodHandle" ∧ y_Ge_isSeeded.cls ≠ "java/lang/invoke/VarHandle" ∧ (parseMethodDescriptor y_Ge_isSeeded.desc).map (fun d => d.parameters.length) = some 0 := by decide +kernel
theorem p_Ge_passTime : y_Ge_passTime.cls ≠ "java/lang/invoke/MethodHandle" ∧ y_Ge_passTime.cls ≠ "java/lang/invoke/VarHandle" ∧ (parseMethodDescriptor y_Ge_passTime.desc).map (fun d => d.parameters.length) = some 1 := by decide +kernel
theorem p_Ge_isDrawingDue : y_Ge_isDrawingDue.cls ≠ "java/lang/invoke/MethodHandle" ∧ y_Ge_isDrawingDue.cls ≠ "java/lang/invoke/VarHandle" ∧ (parseMethodDescriptor y_Ge_isDrawingDue.desc).map (fun d => d.parameters.length) = some 0 := by decide +kernel
theorem p_Ge_draw : y_Ge_draw.cls ≠ "java/lang/invoke/MethodHandle" ∧ y_Ge_draw.cls ≠ "java/lang/invoke/VarHandle" ∧ (parseMethodDescriptor y_Ge_draw.desc).map (fun d => d.parameters.length) = some 0 := by decide +kernel
theorem p_Ge_isMultiple : y_Ge_isMultiple.cls ≠ "java/lang/invoke/MethodHandle" ∧ y_Ge_isMultiple.cls ≠ "java/lang/invoke/VarHandle" ∧ (parseMethodDescriptor y_Ge_isMultiple.desc).map (fun d => d.parameters.length) = some 2 := by decide +kernel
theorem p_Ge_reseedWith : y_Ge_reseedWith.cls ≠ "java/lang/invoke/MethodHandle" ∧ y_Ge_reseedWith.cls ≠ "java/lang/invoke/VarHandle" ∧ (parseMethodDescriptor y_Ge_reseedWith.desc).map (fun d => d.parameters.length) = some 3 := by decide +kernel
theorem p_Ge_reseed : y_Ge_reseed.cls ≠ "java/lang/invoke/MethodHandle" ∧ y_Ge_reseed.cls ≠ "java/lang/invoke/VarHandle" ∧ (parseMethodDescriptor y_Ge_reseed.desc).map (fun d => d.parameters.length) = some 1 := by decide +kernel
theorem p_Ge_generate : y_Ge_generate.cls ≠ "java/lang/invoke/MethodHandle" ∧ y_Ge_generate.cls ≠ "java/lang/invoke/VarHandle" ∧ (parseMethodDescriptor y_Ge_generate.desc).map (fun d => d.parameters.length) = some 2 := by decide +kernel
theorem p_Ge_byteOfTwice : y_Ge_byteOfTwice.cls ≠ "java/lang/invoke/MethodHandle" ∧ y_Ge_byteOfTwice.cls ≠ "java/lang/invoke/VarHandle" ∧ (parseMethodDescriptor y_Ge_byteOfTwice.desc).map (fun d => d.parameters.length) = some 2 := by decide +kernel
theorem p_Ge_countOn : y_Ge_countOn.cls ≠ "java/lang/invoke/MethodHandle" ∧ y_Ge_countOn.cls ≠ "java/lang/invoke/VarHandle" ∧ (parseMethodDescriptor y_Ge_countOn.desc).map (fun d => d.parameters.length) = some 0 := by decide +kernel
theorem p_Po_new : y_Po_new.cls ≠ "java/lang/invoke/MethodHandle" ∧ y_Po_new.cls ≠ "java/lang/invoke/VarHandle" ∧ (parseMethodDescriptor y_Po_new.desc).map (fun d => d.parameters.length) = some 0 := by decide +kernel
theorem p_Po_add : y_Po_add.cls ≠ "java/lang/invoke/MethodHandle" ∧ y_Po_add.cls ≠ "java/lang/invoke/VarHandle" ∧ (parseMethodDescriptor y_Po_add.desc).map (fun d => d.parameters.length) = some 2 := by decide +kernel
theorem p_Po_grow : y_Po_grow.cls ≠ "java/lang/invoke/MethodHandle" ∧ y_Po_grow.cls ≠ "java/lang/invoke/VarHandle" ∧ (parseMethodDescriptor y_Po_grow.desc).map (fun d => d.parameters.length) = some 0 := by decide +kernel
theorem p_Pd_new : y_Pd_new.cls ≠ "java/lang/invoke/MethodHandle" ∧ y_Pd_new.cls ≠ "java/lang/invoke/VarHandle" ∧ (parseMethodDescriptor y_Pd_new.desc).map (fun d => d.parameters.length) = some 0 := by decide +kernel
theorem p_Pd_init : y_Pd_init.cls ≠ "java/lang/invoke/MethodHandle" ∧ y_Pd_init.cls ≠ "java/lang/invoke/VarHandle" ∧ (parseMethodDescriptor y_Pd_init.desc).map (fun d => d.parameters.length) = some 0 := by decide +kernel
theorem p_Pd_event : y_Pd_event.cls ≠ "java/lang/invoke/MethodHandle" ∧ y_Pd_event.cls ≠ "java/lang/invoke/VarHandle" ∧ (parseMethodDescriptor y_Pd_event.desc).map (fun d => d.parameters.length) = some 3 := by decide +kernel
theorem p_Pd_tick : y_Pd_tick.cls ≠ "java/lang/invoke/MethodHandle" ∧ y_Pd_tick.cls ≠ "java/lang/invoke/VarHandle" ∧ (parseMethodDescriptor y_Pd_tick.desc).map (fun d => d.parameters.length) = some 1 := by decide +kernel
theorem p_Pd_request : y_Pd_request.cls ≠ "java/lang/invoke/MethodHandle" ∧ y_Pd_request.cls ≠ "java/lang/invoke/VarHandle" ∧ (parseMethodDescriptor y_Pd_request.desc).map (fun d => d.parameters.length) = some 1 := by decide +kernel
theorem p_Pd_out : y_Pd_out.cls ≠ "java/lang/invoke/MethodHandle" ∧ y_Pd_out.cls ≠ "java/lang/invoke/VarHandle" ∧ (parseMethodDescriptor y_Pd_out.desc).map (fun d => d.parameters.length) = some 1 := by decide +kernel
theorem p_Pd_save : y_Pd_save.cls ≠ "java/lang/invoke/MethodHandle" ∧ y_Pd_save.cls ≠ "java/lang/invoke/VarHandle" ∧ (parseMethodDescriptor y_Pd_save.desc).map (fun d => d.parameters.length) = some 0 := by decide +kernel
theorem p_Pd_load : y_Pd_load.cls ≠ "java/lang/invoke/MethodHandle" ∧ y_Pd_load.cls ≠ "java/lang/invoke/VarHandle" ∧ (parseMethodDescriptor y_Pd_load.desc).map (fun d => d.parameters.length) = some 0 := by decide +kernel
theorem p_Pd_crash : y_Pd_crash.cls ≠ "java/lang/invoke/MethodHandle" ∧ y_Pd_crash.cls ≠ "java/lang/invoke/VarHandle" ∧ (parseMethodDescriptor y_Pd_crash.desc).map (fun d => d.parameters.length) = some 1 := by decide +kernel
theorem p_Pd_byteOf : y_Pd_byteOf.cls ≠ "java/lang/invoke/MethodHandle" ∧ y_Pd_byteOf.cls ≠ "java/lang/invoke/VarHandle" ∧ (parseMethodDescriptor y_Pd_byteOf.desc).map (fun d => d.parameters.length) = some 2 := by decide +kernel
theorem p_Pd_spoil : y_Pd_spoil.cls ≠ "java/lang/invoke/MethodHandle" ∧ y_Pd_spoil.cls ≠ "java/lang/invoke/VarHandle" ∧ (parseMethodDescriptor y_Pd_spoil.desc).map (fun d => d.parameters.length) = some 2 := by decide +kernel
theorem p_Pd_about : y_Pd_about.cls ≠ "java/lang/invoke/MethodHandle" ∧ y_Pd_about.cls ≠ "java/lang/invoke/VarHandle" ∧ (parseMethodDescriptor y_Pd_about.desc).map (fun d => d.parameters.length) = some 1 := by decide +kernel
theorem p_Pd_startAgain : y_Pd_startAgain.cls ≠ "java/lang/invoke/MethodHandle" ∧ y_Pd_startAgain.cls ≠ "java/lang/invoke/VarHandle" ∧ (parseMethodDescriptor y_Pd_startAgain.desc).map (fun d => d.parameters.length) = some 0 := by decide +kernel
theorem p_Pd_saveNewSeed : y_Pd_saveNewSeed.cls ≠ "java/lang/invoke/MethodHandle" ∧ y_Pd_saveNewSeed.cls ≠ "java/lang/invoke/VarHandle" ∧ (parseMethodDescriptor y_Pd_saveNewSeed.desc).map (fun d => d.parameters.length) = some 0 := by decide +kernel
theorem p_Pd_byteOfPool : y_Pd_byteOfPool.cls ≠ "java/lang/invoke/MethodHandle" ∧ y_Pd_byteOfPool.cls ≠ "java/lang/invoke/VarHandle" ∧ (parseMethodDescriptor y_Pd_byteOfPool.desc).map (fun d => d.parameters.length) = some 2 := by decide +kernel
theorem p_Pd_sizeOfPool : y_Pd_sizeOfPool.cls ≠ "java/lang/invoke/MethodHandle" ∧ y_Pd_sizeOfPool.cls ≠ "java/lang/invoke/VarHandle" ∧ (parseMethodDescriptor y_Pd_sizeOfPool.desc).map (fun d => d.parameters.length) = some 1 := by decide +kernel
theorem p_Pd_byteAt : y_Pd_byteAt.cls ≠ "java/lang/invoke/MethodHandle" ∧ y_Pd_byteAt.cls ≠ "java/lang/invoke/VarHandle" ∧ (parseMethodDescriptor y_Pd_byteAt.desc).map (fun d => d.parameters.length) = some 3 := by decide +kernel
theorem p_Pd_isByte : y_Pd_isByte.cls ≠ "java/lang/invoke/MethodHandle" ∧ y_Pd_isByte.cls ≠ "java/lang/invoke/VarHandle" ∧ (parseMethodDescriptor y_Pd_isByte.desc).map (fun d => d.parameters.length) = some 1 := by decide +kernel
theorem p_Pd_isPool : y_Pd_isPool.cls ≠ "java/lang/invoke/MethodHandle" ∧ y_Pd_isPool.cls ≠ "java/lang/invoke/VarHandle" ∧ (parseMethodDescriptor y_Pd_isPool.desc).map (fun d => d.parameters.length) = some 1 := by decide +kernel
theorem p_Mo_new : y_Mo_new.cls ≠ "java/lang/invoke/MethodHandle" ∧ y_Mo_new.cls ≠ "java/lang/invoke/VarHandle" ∧ (parseMethodDescriptor y_Mo_new.desc).map (fun d => d.parameters.length) = some 0 := by decide +kernel
theorem p_Mo_in : y_Mo_in.cls ≠ "java/lang/invoke/MethodHandle" ∧ y_Mo_in.cls ≠ "java/lang/invoke/VarHandle" ∧ (parseMethodDescriptor y_Mo_in.desc).map (fun d => d.parameters.length) = some 2 := by decide +kernel
theorem p_Mo_constant : y_Mo_constant.cls ≠ "java/lang/invoke/MethodHandle" ∧ y_Mo_constant.cls ≠ "java/lang/invoke/VarHandle" ∧ (parseMethodDescriptor y_Mo_constant.desc).map (fun d => d.parameters.length) = some 1 := by decide +kernel
theorem p_Mo_right : y_Mo_right.cls ≠ "java/lang/invoke/MethodHandle" ∧ y_Mo_right.cls ≠ "java/lang/invoke/VarHandle" ∧ (parseMethodDescriptor y_Mo_right.desc).map (fun d => d.parameters.length) = some 2 := by decide +kernel
theorem p_Mo_start : y_Mo_start.cls ≠ "java/lang/invoke/MethodHandle" ∧ y_Mo_start.cls ≠ "java/lang/invoke/VarHandle" ∧ (parseMethodDescriptor y_Mo_start.desc).map (fun d => d.parameters.length) = some 1 := by decide +kernel
theorem p_Mo_padded : y_Mo_padded.cls ≠ "java/lang/invoke/MethodHandle" ∧ y_Mo_padded.cls ≠ "java/lang/invoke/VarHandle" ∧ (parseMethodDescriptor y_Mo_padded.desc).map (fun d => d.parameters.length) = some 2 := by decide +kernel
theorem p_Mo_round : y_Mo_round.cls ≠ "java/lang/invoke/MethodHandle" ∧ y_Mo_round.cls ≠ "java/lang/invoke/VarHandle" ∧ (parseMethodDescriptor y_Mo_round.desc).map (fun d => d.parameters.length) = some 2 := by decide +kernel
theorem p_Mo_digests : y_Mo_digests.cls ≠ "java/lang/invoke/MethodHandle" ∧ y_Mo_digests.cls ≠ "java/lang/invoke/VarHandle" ∧ (parseMethodDescriptor y_Mo_digests.desc).map (fun d => d.parameters.length) = some 0 := by decide +kernel
theorem p_Mo_twice : y_Mo_twice.cls ≠ "java/lang/invoke/MethodHandle" ∧ y_Mo_twice.cls ≠ "java/lang/invoke/VarHandle" ∧ (parseMethodDescriptor y_Mo_twice.desc).map (fun d => d.parameters.length) = some 0 := by decide +kernel
theorem p_Mo_ofPool : y_Mo_ofPool.cls ≠ "java/lang/invoke/MethodHandle" ∧ y_Mo_ofPool.cls ≠ "java/lang/invoke/VarHandle" ∧ (parseMethodDescriptor y_Mo_ofPool.desc).map (fun d => d.parameters.length) = some 1 := by decide +kernel
theorem p_Mo_times : y_Mo_times.cls ≠ "java/lang/invoke/MethodHandle" ∧ y_Mo_times.cls ≠ "java/lang/invoke/VarHandle" ∧ (parseMethodDescriptor y_Mo_times.desc).map (fun d => d.parameters.length) = some 2 := by decide +kernel
theorem p_Mo_turned : y_Mo_turned.cls ≠ "java/lang/invoke/MethodHandle" ∧ y_Mo_turned.cls ≠ "java/lang/invoke/VarHandle" ∧ (parseMethodDescriptor y_Mo_turned.desc).map (fun d => d.parameters.length) = some 1 := by decide +kernel
theorem p_Mo_s : y_Mo_s.cls ≠ "java/lang/invoke/MethodHandle" ∧ y_Mo_s.cls ≠ "java/lang/invoke/VarHandle" ∧ (parseMethodDescriptor y_Mo_s.desc).map (fun d => d.parameters.length) = some 1 := by decide +kernel
theorem p_Mo_schedules : y_Mo_schedules.cls ≠ "java/lang/invoke/MethodHandle" ∧ y_Mo_schedules.cls ≠ "java/lang/invoke/VarHandle" ∧ (parseMethodDescriptor y_Mo_schedules.desc).map (fun d => d.parameters.length) = some 0 := by decide +kernel
theorem p_Mo_generates : y_Mo_generates.cls ≠ "java/lang/invoke/MethodHandle" ∧ y_Mo_generates.cls ≠ "java/lang/invoke/VarHandle" ∧ (parseMethodDescriptor y_Mo_generates.desc).map (fun d => d.parameters.length) = some 1 := by decide +kernel
theorem p_Mo_counts : y_Mo_counts.cls ≠ "java/lang/invoke/MethodHandle" ∧ y_Mo_counts.cls ≠ "java/lang/invoke/VarHandle" ∧ (parseMethodDescriptor y_Mo_counts.desc).map (fun d => d.parameters.length) = some 0 := by decide +kernel
theorem p_Mo_isSeeded : y_Mo_isSeeded.cls ≠ "java/lang/invoke/MethodHandle" ∧ y_Mo_isSeeded.cls ≠ "java/lang/invoke/VarHandle" ∧ (parseMethodDescriptor y_Mo_isSeeded.desc).map (fun d => d.parameters.length) = some 0 := by decide +kernel
theorem p_Mo_generatesAll : y_Mo_generatesAll.cls ≠ "java/lang/invoke/MethodHandle" ∧ y_Mo_generatesAll.cls ≠ "java/lang/invoke/VarHandle" ∧ (parseMethodDescriptor y_Mo_generatesAll.desc).map (fun d => d.parameters.length) = some 1 := by decide +kernel
theorem p_Mo_reseeds : y_Mo_reseeds.cls ≠ "java/lang/invoke/MethodHandle" ∧ y_Mo_reseeds.cls ≠ "java/lang/invoke/VarHandle" ∧ (parseMethodDescriptor y_Mo_reseeds.desc).map (fun d => d.parameters.length) = some 1 := by decide +kernel
theorem p_Mo_first : y_Mo_first.cls ≠ "java/lang/invoke/MethodHandle" ∧ y_Mo_first.cls ≠ "java/lang/invoke/VarHandle" ∧ (parseMethodDescriptor y_Mo_first.desc).map (fun d => d.parameters.length) = some 0 := by decide +kernel
theorem p_Mo_init : y_Mo_init.cls ≠ "java/lang/invoke/MethodHandle" ∧ y_Mo_init.cls ≠ "java/lang/invoke/VarHandle" ∧ (parseMethodDescriptor y_Mo_init.desc).map (fun d => d.parameters.length) = some 0 := by decide +kernel
theorem p_Mo_event : y_Mo_event.cls ≠ "java/lang/invoke/MethodHandle" ∧ y_Mo_event.cls ≠ "java/lang/invoke/VarHandle" ∧ (parseMethodDescriptor y_Mo_event.desc).map (fun d => d.parameters.length) = some 3 := by decide +kernel
theorem p_Mo_tick : y_Mo_tick.cls ≠ "java/lang/invoke/MethodHandle" ∧ y_Mo_tick.cls ≠ "java/lang/invoke/VarHandle" ∧ (parseMethodDescriptor y_Mo_tick.desc).map (fun d => d.parameters.length) = some 1 := by decide +kernel
theorem p_Mo_draws : y_Mo_draws.cls ≠ "java/lang/invoke/MethodHandle" ∧ y_Mo_draws.cls ≠ "java/lang/invoke/VarHandle" ∧ (parseMethodDescriptor y_Mo_draws.desc).map (fun d => d.parameters.length) = some 0 := by decide +kernel
theorem p_Mo_request : y_Mo_request.cls ≠ "java/lang/invoke/MethodHandle" ∧ y_Mo_request.cls ≠ "java/lang/invoke/VarHandle" ∧ (parseMethodDescriptor y_Mo_request.desc).map (fun d => d.parameters.length) = some 1 := by decide +kernel
theorem p_Mo_out : y_Mo_out.cls ≠ "java/lang/invoke/MethodHandle" ∧ y_Mo_out.cls ≠ "java/lang/invoke/VarHandle" ∧ (parseMethodDescriptor y_Mo_out.desc).map (fun d => d.parameters.length) = some 1 := by decide +kernel
theorem p_Mo_writes : y_Mo_writes.cls ≠ "java/lang/invoke/MethodHandle" ∧ y_Mo_writes.cls ≠ "java/lang/invoke/VarHandle" ∧ (parseMethodDescriptor y_Mo_writes.desc).map (fun d => d.parameters.length) = some 2 := by decide +kernel
theorem p_Mo_saves : y_Mo_saves.cls ≠ "java/lang/invoke/MethodHandle" ∧ y_Mo_saves.cls ≠ "java/lang/invoke/VarHandle" ∧ (parseMethodDescriptor y_Mo_saves.desc).map (fun d => d.parameters.length) = some 0 := by decide +kernel
theorem p_Mo_save : y_Mo_save.cls ≠ "java/lang/invoke/MethodHandle" ∧ y_Mo_save.cls ≠ "java/lang/invoke/VarHandle" ∧ (parseMethodDescriptor y_Mo_save.desc).map (fun d => d.parameters.length) = some 0 := by decide +kernel
theorem p_Mo_load : y_Mo_load.cls ≠ "java/lang/invoke/MethodHandle" ∧ y_Mo_load.cls ≠ "java/lang/invoke/VarHandle" ∧ (parseMethodDescriptor y_Mo_load.desc).map (fun d => d.parameters.length) = some 0 := by decide +kernel
theorem p_Mo_crash : y_Mo_crash.cls ≠ "java/lang/invoke/MethodHandle" ∧ y_Mo_crash.cls ≠ "java/lang/invoke/VarHandle" ∧ (parseMethodDescriptor y_Mo_crash.desc).map (fun d => d.parameters.length) = some 1 := by decide +kernel
theorem p_Mo_byteOf : y_Mo_byteOf.cls ≠ "java/lang/invoke/MethodHandle" ∧ y_Mo_byteOf.cls ≠ "java/lang/invoke/VarHandle" ∧ (parseMethodDescriptor y_Mo_byteOf.desc).map (fun d => d.parameters.length) = some 2 := by decide +kernel
theorem p_Mo_spoil : y_Mo_spoil.cls ≠ "java/lang/invoke/MethodHandle" ∧ y_Mo_spoil.cls ≠ "java/lang/invoke/VarHandle" ∧ (parseMethodDescriptor y_Mo_spoil.desc).map (fun d => d.parameters.length) = some 2 := by decide +kernel
theorem p_Mo_about : y_Mo_about.cls ≠ "java/lang/invoke/MethodHandle" ∧ y_Mo_about.cls ≠ "java/lang/invoke/VarHandle" ∧ (parseMethodDescriptor y_Mo_about.desc).map (fun d => d.parameters.length) = some 1 := by decide +kernel
theorem p_In_rotateRight : y_In_rotateRight.cls ≠ "java/lang/invoke/MethodHandle" ∧ y_In_rotateRight.cls ≠ "java/lang/invoke/VarHandle" ∧ (parseMethodDescriptor y_In_rotateRight.desc).map (fun d => d.parameters.length) = some 2 := by decide +kernel
end
section
/-! Numbers: shifts, masks, arrays that are filled place by place. -/
def b_us (x y : Int32) : Int32 := (x.toUInt32 >>> (y.toUInt32 &&& Int32.toUInt32 31)).toInt32
theorem b_s1 : ∀ n, n < 32 → ((nI n &&& 31).toBitVec.smod 32).toNat = n := by decide +kernel
theorem b_s2 : ∀ n, n < 32 → (((nI n).toUInt32 &&& Int32.toUInt32 31).toBitVec % 32).toNat = n := by decide +kernel
theorem b_shl {n : Nat} (k : Nat) (hk : k < 32) (h : n * 2 ^ k < 2 ^ 32) : nI n <<< (nI k &&& 31) = nI (n * 2 ^ k) := pk_shlN _ k (b_s1 k hk) h
theorem b_shr {n : Nat} (k : Nat) (hk : k < 32) (h : n < 2 ^ 31) : nI n >>> (nI k &&& 31) = nI (n / 2 ^ k) := pk_shrN h _ k (b_s1 k hk)
theorem b_ush {n : Nat} (k : Nat) (hk : k < 32) (h : n < 2 ^ 32) : b_us (nI n) (nI k) = nI (n / 2 ^ k) := pk_ushrN h _ k (b_s2 k hk)
theorem b_255 {n : Nat} (h : n < 2 ^ 32) : nI n &&& nI 255 = nI (n % 256) := pk_andN h 8 (by decide)
/-- the first i places of f, behind them g -/
def mx {α : Type} (i : Nat) (f g : Nat → α) : Nat → α := fun j => if j < i then f j else g j
theorem mx_lt {α : Type} {i j : Nat} {f g : Nat → α} (h : j < i) : mx i f g j = f j := if_pos h
theorem mx_ge {α : Type} {i j : Nat} {f g : Nat → α} (h : i ≤ j) : mx i f g j = g j := if_neg (by omega)
theorem mx_up {i v : Nat} {f g : Nat → Nat} (h : v = f i) : va_up (mx i f g) i v = mx (i + 1) f g := by
  funext j
  unfold va_up mx
  by_cases h1 : j = i
  · subst h1
    rw [if_pos rfl, if_pos (by omega), h]
  · rw [if_neg h1]
    by_cases h2 : j < i
    · rw [if_pos h2, if_pos (by omega)]
    · rw [if_neg h2, if_neg (by omega)]
theorem mx_fn {n i v : Nat} {f g : Nat → Nat} (h : v = f i) : ∀ j, j < n → nA (va_up (mx i f g) i v) j = nA (mx (i + 1) f g) j := fun j _ => congrArg nI (congrFun (mx_up h) j)
theorem mx_ud {i : Nat} {v : Int32} {f g : Nat → Int32} (h : v = f i) : upd (mx i f g) i v = mx (i + 1) f g := by
  funext j
  unfold upd mx
  by_cases h1 : j = i
  · subst h1
    rw [if_pos rfl, if_pos (by omega), h]
  · rw [if_neg h1]
    by_cases h2 : j < i
    · rw [if_pos h2, if_pos (by omega)]
    · rw [if_neg h2, if_neg (by omega)]
theorem mx_fi {n i : Nat} {v : Int32} {f g : Nat → Int32} (h : v = f i) : ∀ j, j < n → upd (mx i f g) i v j = mx (i + 1) f g j := fun j _ => congrFun (mx_ud h) j
theorem mx_0 {α : Type} (f g : Nat → α) : ∀ j, mx 0 f g j = g j := fun j => mx_ge (Nat.zero_le j)
theorem mx_z {n : Nat} (f g : Nat → Nat) : ∀ j, j < n → nA g j = nA (mx 0 f g) j := fun j _ => congrArg nI (mx_0 f g j).symm
theorem mx_zi {n : Nat} (f g : Nat → Int32) : ∀ j, j < n → g j = mx 0 f g j := fun j _ => (mx_0 f g j).symm
theorem mx_e {n : Nat} {f g : Nat → Nat} : ∀ j, j < n → nA (mx n f g) j = nA f j := fun j h => congrArg nI (mx_lt h)
theorem mx_ei {n : Nat} {f g : Nat → Int32} : ∀ j, j < n → mx n f g j = f j := fun j h => mx_lt h
/-! the cipher, by natural numbers -/
def g_x2 (b : Nat) : Nat := if b < 128 then 2 * b else (2 * b) ^^^ 283
theorem g_x2_lt : ∀ b, b < 256 → g_x2 b < 256 := by decide +kernel
theorem k_S_lt : ∀ b, b < 256 → k_S b < 256 := by decide +kernel
def g_bt (n : Nat) (g : Nat → Nat) : Prop := ∀ j, j < n → g j < 256
theorem g_xl {x y : Nat} (hx : x < 256) (hy : y < 256) : x ^^^ y < 256 := Nat.xor_lt_two_pow (n := 8) hx hy
end
section
theorem cp_0 {n : Nat} {f g : Nat → Nat} : ∀ j, j < n → nA (va_cpy f g 0 0 n) j = nA f j := fun j h => congrArg nI (by rw [pk_cpy_in (Nat.zero_le j) (by omega)]; congr 1; omega)
def g_sm (g : Nat → Nat) : Nat → Nat := fun j => k_S (g ((j + 4 * (j % 4)) % 16))
theorem g_sm_bt {g : Nat → Nat} (h : g_bt 16 g) : g_bt 16 (g_sm g) := fun j _ => k_S_lt _ (h _ (by omega))
def g_mc (g : Nat → Nat) : Nat → Nat := fun j => (g (j / 4 * 4 + j % 4) ^^^ (g (j / 4 * 4) ^^^ g (j / 4 * 4 + 1) ^^^ g (j / 4 * 4 + 2) ^^^ g (j / 4 * 4 + 3))) ^^^ g_x2 (g (j / 4 * 4 + j % 4) ^^^ g (j / 4 * 4 + (j + 1) % 4))
theorem g_mc_bt {g : Nat → Nat} (h : g_bt 16 g) : g_bt 16 (g_mc g) := fun j hj => g_xl (g_xl (h _ (by omega)) (g_xl (g_xl (g_xl (h _ (by omega)) (h _ (by omega))) (h _ (by omega))) (h _ (by omega)))) (g_x2_lt _ (g_xl (h _ (by omega)) (h _ (by omega))))
theorem g_mc0 (g : Nat → Nat) (c : Nat) : g_mc g (4 * c) = (g (4 * c) ^^^ (g (4 * c) ^^^ g (4 * c + 1) ^^^ g (4 * c + 2) ^^^ g (4 * c + 3))) ^^^ g_x2 (g (4 * c) ^^^ g (4 * c + 1)) := by
  unfold g_mc
  rw [show 4 * c / 4 * 4 = 4 * c by omega, show 4 * c % 4 = 0 by omega, show (4 * c + 1) % 4 = 1 by omega]
  rfl
theorem g_mc1 (g : Nat → Nat) (c : Nat) : g_mc g (4 * c + 1) = (g (4 * c + 1) ^^^ (g (4 * c) ^^^ g (4 * c + 1) ^^^ g (4 * c + 2) ^^^ g (4 * c + 3))) ^^^ g_x2 (g (4 * c + 1) ^^^ g (4 * c + 2)) := by
  unfold g_mc
  rw [show (4 * c + 1) / 4 * 4 = 4 * c by omega, show (4 * c + 1) % 4 = 1 by omega, show (4 * c + 1 + 1) % 4 = 2 by omega]
theorem g_mc2 (g : Nat → Nat) (c : Nat) : g_mc g (4 * c + 2) = (g (4 * c + 2) ^^^ (g (4 * c) ^^^ g (4 * c + 1) ^^^ g (4 * c + 2) ^^^ g (4 * c + 3))) ^^^ g_x2 (g (4 * c + 2) ^^^ g (4 * c + 3)) := by
  unfold g_mc
  rw [show (4 * c + 2) / 4 * 4 = 4 * c by omega, show (4 * c + 2) % 4 = 2 by omega, show (4 * c + 2 + 1) % 4 = 3 by omega]
theorem g_mc3 (g : Nat → Nat) (c : Nat) : g_mc g (4 * c + 3) = (g (4 * c + 3) ^^^ (g (4 * c) ^^^ g (4 * c + 1) ^^^ g (4 * c + 2) ^^^ g (4 * c + 3))) ^^^ g_x2 (g (4 * c + 3) ^^^ g (4 * c)) := by
  unfold g_mc
  rw [show (4 * c + 3) / 4 * 4 = 4 * c by omega, show (4 * c + 3) % 4 = 3 by omega, show (4 * c + 3 + 1) % 4 = 0 by omega]
  rfl
def g_pw : Nat → Nat
  | 0 => 1
  | k + 1 => g_x2 (g_pw k)
theorem g_pw_lt (k : Nat) : g_pw k < 256 := by
  induction k with
  | zero => decide
  | succ k ih => exact g_x2_lt _ ih
/-- the 176 bytes of the key's words -/
def g_sch (key : Nat → Nat) (i : Nat) : Nat :=
  if i < 16 then key i
  else if i % 16 < 4 then g_sch key (i - 16) ^^^ (k_S (g_sch key (i / 4 * 4 - 4 + (i + 1) % 4)) ^^^ (if i % 4 = 0 then g_pw (i / 16 - 1) else 0))
  else g_sch key (i - 16) ^^^ g_sch key (i - 4)
termination_by i
decreasing_by all_goals omega
theorem g_sch_0 {key : Nat → Nat} {i : Nat} (h : i < 16) : g_sch key i = key i := by rw [g_sch, if_pos h]
theorem g_sch_1 {key : Nat → Nat} {i : Nat} (h : 16 ≤ i) (h2 : i % 16 < 4) : g_sch key i = g_sch key (i - 16) ^^^ (k_S (g_sch key (i / 4 * 4 - 4 + (i + 1) % 4)) ^^^ (if i % 4 = 0 then g_pw (i / 16 - 1) else 0)) := by
  rw [g_sch, if_neg (by omega), if_pos h2]
theorem g_sch_2 {key : Nat → Nat} {i : Nat} (h : 16 ≤ i) (h2 : ¬ i % 16 < 4) : g_sch key i = g_sch key (i - 16) ^^^ g_sch key (i - 4) := by
  rw [g_sch, if_neg (by omega), if_neg h2]
theorem g_sch_bt {key : Nat → Nat} (h : g_bt 16 key) : ∀ i, g_sch key i < 256 := by
  intro i
  induction i using Nat.strongRecOn with
  | _ i ih =>
    by_cases h1 : i < 16
    · rw [g_sch_0 h1]; exact h i h1
    · by_cases h2 : i % 16 < 4
      · rw [g_sch_1 (by omega) h2]
        refine g_xl (ih _ (by omega)) (g_xl (k_S_lt _ (ih _ (by omega))) ?_)
        split
        · exact g_pw_lt _
        · decide
      · rw [g_sch_2 (by omega) h2]
        exact g_xl (ih _ (by omega)) (ih _ (by omega))
/-- the block behind round r -/
def g_blk (K ctr : Nat → Nat) : Nat → Nat → Nat
  | 0 => fun j => ctr j ^^^ K (0 * 16 + j)
  | r + 1 => fun j => (if r + 1 < 10 then g_mc (g_sm (g_blk K ctr r)) else g_sm (g_blk K ctr r)) j ^^^ K ((r + 1) * 16 + j)
theorem g_blk_bt {K ctr : Nat → Nat} (hK : ∀ j, K j < 256) (hc : g_bt 16 ctr) (r : Nat) : g_bt 16 (g_blk K ctr r) := by
  induction r with
  | zero => exact fun j hj => g_xl (hc j hj) (hK _)
  | succ r ih =>
    intro j hj
    refine g_xl ?_ (hK _)
    split
    · exact g_mc_bt (g_sm_bt ih) j hj
    · exact g_sm_bt ih j hj
/-- the first byte of a turned word before its power -/
def g_s1 (s : Nat → Nat) (t : Nat) : Nat → Nat := va_up s (16 * t) (s (16 * t - 16) ^^^ k_S (s (16 * t - 4 + (0 + 1) % 4)))
theorem g_s1_ne {s : Nat → Nat} {t j : Nat} (h : j ≠ 16 * t) : g_s1 s t j = s j := va_up_ne _ _ h
theorem g_s1_eq {s : Nat → Nat} {t : Nat} : g_s1 s t (16 * t) = s (16 * t - 16) ^^^ k_S (s (16 * t - 4 + (0 + 1) % 4)) := va_up_self _ _ _
theorem g_turn {key : Nat → Nat} {t k : Nat} (ht : 1 ≤ t) (hk : k < 4) : g_sch key (16 * t - 16 + k) ^^^ k_S (g_sch key (16 * t - 4 + (k + 1) % 4)) = g_s1 (g_sch key) t (16 * t + k) := by
  by_cases h : k = 0
  · subst h
    exact g_s1_eq.symm
  · rw [g_s1_ne (by omega), g_sch_1 (i := 16 * t + k) (by omega) (by omega), if_neg (by omega), Nat.xor_zero]
    rw [show 16 * t + k - 16 = 16 * t - 16 + k by omega, show (16 * t + k) / 4 * 4 - 4 + (16 * t + k + 1) % 4 = 16 * t - 4 + (k + 1) % 4 by omega]
theorem g_turn0 {key : Nat → Nat} {t : Nat} (ht : 1 ≤ t) : g_s1 (g_sch key) t (16 * t) ^^^ g_pw (t - 1) = g_sch key (16 * t) := by
  rw [g_s1_eq, g_sch_1 (i := 16 * t) (by omega) (by omega), if_pos (by omega), Nat.xor_assoc]
  rw [show 16 * t / 4 * 4 - 4 + (16 * t + 1) % 4 = 16 * t - 4 + (0 + 1) % 4 by omega, show 16 * t / 16 = t by omega]
theorem g_turnE {s v0 : Nat → Nat} {t w : Nat} (hw : w = s (16 * t)) : ∀ j, j < 176 → nA (va_up (mx (16 * t + 4) (g_s1 s t) v0) (16 * t) w) j = nA (mx (16 * t + 4) s v0) j := by
  intro j _
  refine congrArg nI ?_
  by_cases h : j = 16 * t
  · subst h
    rw [va_up_self, mx_lt (by omega), hw]
  · rw [va_up_ne _ _ h]
    by_cases h2 : j < 16 * t + 4
    · rw [mx_lt h2, mx_lt h2, g_s1_ne h]
    · rw [mx_ge (by omega), mx_ge (by omega)]
theorem g_turnS {s v0 : Nat → Nat} {t : Nat} : ∀ j, j < 176 → nA (mx (16 * t) s v0) j = nA (mx (16 * t + 0) (g_s1 s t) v0) j := by
  intro j _
  refine congrArg nI ?_
  by_cases h2 : j < 16 * t
  · rw [mx_lt h2, mx_lt (by omega), g_s1_ne (by omega)]
  · rw [mx_ge (by omega), mx_ge (by omega)]
theorem g_cpk {s k0 : Nat → Nat} {key : Nat → Nat} (h : ∀ j, j < 16 → s j = key j) : ∀ j, j < 176 → nA (va_cpy key k0 0 0 16) j = nA (mx (16 * 0 + 16) s k0) j := by
  intro j _
  refine congrArg nI ?_
  by_cases h2 : j < 16
  · rw [pk_cpy_in (Nat.zero_le j) (by omega), mx_lt (by omega), h j h2]
    congr 1; omega
  · rw [pk_cpy_out (by omega), mx_ge (by omega)]
def g_w (v K ctr : Nat → Nat) : Nat → Nat → Nat
  | 0 => v
  | r + 1 => g_sm (g_blk K ctr r)
theorem g_blkA {K ctr : Nat → Nat} {r : Nat} (h : r + 1 < 10) : ∀ j, j < 16 → nA (fun j => g_mc (g_sm (g_blk K ctr r)) j ^^^ K ((r + 1) * 16 + j)) j = nA (g_blk K ctr (r + 1)) j := fun j _ => congrArg nI (by
  show _ = (if r + 1 < 10 then g_mc (g_sm (g_blk K ctr r)) else g_sm (g_blk K ctr r)) j ^^^ K ((r + 1) * 16 + j)
  rw [if_pos h])
theorem g_blkB {K ctr : Nat → Nat} {r : Nat} (h : ¬ r + 1 < 10) : ∀ j, j < 16 → nA (fun j => g_sm (g_blk K ctr r) j ^^^ K ((r + 1) * 16 + j)) j = nA (g_blk K ctr (r + 1)) j := fun j _ => congrArg nI (by
  show _ = (if r + 1 < 10 then g_mc (g_sm (g_blk K ctr r)) else g_sm (g_blk K ctr r)) j ^^^ K ((r + 1) * 16 + j)
  rw [if_neg h])
end
section
/-! The digest. -/
def h_r (x k : Int32) : Int32 := b_us x k ||| (x <<< (-k &&& 31))
def h_s0 (x : Int32) : Int32 := h_r x (nI 7) ^^^ h_r x (nI 18) ^^^ b_us x (nI 3)
def h_s1 (x : Int32) : Int32 := h_r x (nI 17) ^^^ h_r x (nI 19) ^^^ b_us x (nI 10)
def h_tot (n : Nat) : Nat := ((n + 8) / 64 + 1) * 64
/-- byte p of the row with what is filled in behind it -/
def h_P (f : Nat → Nat) (n p : Nat) : Nat := if p < n then f p else if p = n then 128 else 8 * n / 2 ^ (8 * (h_tot n - 1 - p)) % 256
theorem h_P_lt {f : Nat → Nat} {n : Nat} (hf : ∀ j, j < n → f j < 256) (p : Nat) : h_P f n p < 256 := by
  unfold h_P
  split
  · exact hf _ (by assumption)
  · split
    · decide
    · exact Nat.mod_lt _ (by decide)
theorem h_P_congr {f g : Nat → Nat} {n : Nat} (h : ∀ j, j < n → f j = g j) : h_P f n = h_P g n := by
  funext p
  unfold h_P
  split
  · exact h _ (by assumption)
  · rfl
theorem h_P1 {f : Nat → Nat} {n p : Nat} (h : p < n) : h_P f n p = f p := if_pos h
theorem h_P2 {f : Nat → Nat} {n : Nat} : h_P f n n = 128 := by unfold h_P; rw [if_neg (Nat.lt_irrefl n), if_pos rfl]
theorem h_P4 {f : Nat → Nat} {n p : Nat} (h : n < p) : h_P f n p = 8 * n / 2 ^ (8 * (h_tot n - 1 - p)) % 256 := by unfold h_P; rw [if_neg (by omega), if_neg (by omega)]
theorem h_P3 {f : Nat → Nat} {n p k : Nat} (h : n < p) (hn : 8 * n < 2 ^ (8 * k)) (hk : k ≤ h_tot n - 1 - p) : h_P f n p = 0 := by
  rw [h_P4 h, Nat.div_eq_of_lt (Nat.lt_of_lt_of_le hn (Nat.pow_le_pow_right (by decide) (by omega)))]
/-- so many bytes as one number -/
def h_ac (P : Nat → Nat) (p : Nat) : Nat → Nat
  | 0 => 0
  | k + 1 => h_ac P p k * 256 + P (p + k)
theorem h_ac_lt {P : Nat → Nat} (hP : ∀ j, P j < 256) (p k : Nat) : h_ac P p k < 256 ^ k := by
  induction k with
  | zero => exact Nat.one_pos
  | succ k ih =>
    have := hP (p + k)
    have e : 256 ^ (k + 1) = 256 ^ k * 256 := rfl
    show h_ac P p k * 256 + P (p + k) < _
    rw [e]
    omega
def h_w (P : Nat → Nat) (fr t : Nat) : Int32 :=
  if t < 16 then nI (h_ac P (fr + 4 * t) 4) else h_w P fr (t - 16) + h_s0 (h_w P fr (t - 15)) + h_w P fr (t - 7) + h_s1 (h_w P fr (t - 2))
termination_by t
decreasing_by all_goals omega
theorem h_w_0 {P : Nat → Nat} {fr t : Nat} (h : t < 16) : h_w P fr t = nI (h_ac P (fr + 4 * t) 4) := by rw [h_w, if_pos h]
theorem h_w_1 {P : Nat → Nat} {fr t : Nat} (h : 16 ≤ t) : h_w P fr t = h_w P fr (t - 16) + h_s0 (h_w P fr (t - 15)) + h_w P fr (t - 7) + h_s1 (h_w P fr (t - 2)) := by rw [h_w, if_neg (by omega)]
def h_u (W : Nat → Int32) (t : Nat) (x : Nat → Int32) : Int32 := x 7 + (h_r (x 4) (nI 6) ^^^ h_r (x 4) (nI 11) ^^^ h_r (x 4) (nI 25)) + ((x 4 &&& x 5) ^^^ ((x 4 ^^^ (-1)) &&& x 6)) + k_K t + W t
def h_v (x : Nat → Int32) : Int32 := (h_r (x 0) (nI 2) ^^^ h_r (x 0) (nI 13) ^^^ h_r (x 0) (nI 22)) + ((x 0 &&& x 1) ^^^ (x 0 &&& x 2) ^^^ (x 1 &&& x 2))
/-- a .. h behind t rounds -/
def h_rd (Hf W : Nat → Int32) : Nat → Nat → Int32
  | 0 => Hf
  | t + 1 => fun i => match i with
    | 0 => h_u W t (h_rd Hf W t) + h_v (h_rd Hf W t)
    | 1 => h_rd Hf W t 0
    | 2 => h_rd Hf W t 1
    | 3 => h_rd Hf W t 2
    | 4 => h_rd Hf W t 3 + h_u W t (h_rd Hf W t)
    | 5 => h_rd Hf W t 4
    | 6 => h_rd Hf W t 5
    | _ => h_rd Hf W t 6
def h_cp (Hf W : Nat → Int32) : Nat → Int32 := fun i => Hf i + h_rd Hf W 64 i
def h_hs (P : Nat → Nat) : Nat → Nat → Int32
  | 0 => k_H
  | b + 1 => h_cp (h_hs P b) (h_w P (64 * b))
def h_ww (f0 : Nat → Int32) (P : Nat → Nat) : Nat → Nat → Int32
  | 0 => f0
  | b + 1 => h_w P (64 * b)
def h_by (Hf : Nat → Int32) : Nat → Nat := fun i => (Hf (i / 4)).toBitVec.toNat / 2 ^ (24 - 8 * (i % 4)) % 256
def h_dg (f : Nat → Nat) (n : Nat) : Nat → Nat := h_by (h_hs (h_P f n) ((n + 8) / 64 + 1))
def h_tw (f : Nat → Nat) (n : Nat) : Nat → Nat := h_dg (h_dg f n) 32
theorem h_by_lt (Hf : Nat → Int32) (i : Nat) : h_by Hf i < 256 := Nat.mod_lt _ (by decide)
theorem h_dg_lt (f : Nat → Nat) (n i : Nat) : h_dg f n i < 256 := h_by_lt _ i
theorem h_tw_lt (f : Nat → Nat) (n i : Nat) : h_tw f n i < 256 := h_by_lt _ i
theorem h_tw_congr {f g : Nat → Nat} {n : Nat} (h : ∀ j, j < n → f j = g j) : h_tw f n = h_tw g n := by
  unfold h_tw h_dg
  rw [h_P_congr h]
theorem h_byE (x : Int32) {k : Nat} (hk : k < 32) : b_us x (nI k) &&& nI 255 = nI (x.toBitVec.toNat / 2 ^ k % 256) := by
  rw [pk_and _ 8 (by decide)]
  congr 2
  exact pk_ushr x (nI k) k (b_s2 k hk)
theorem b_or {x y k : Nat} (h : y < 2 ^ k) : nI (x * 2 ^ k) ||| nI y = nI (x * 2 ^ k + y) := by
  apply Int32.toBitVec_inj.mp
  have e : x * 2 ^ k + y = x * 2 ^ k ||| y := by
    rw [Nat.mul_comm]
    exact Nat.two_pow_add_eq_or_of_lt h x
  rw [e]
  show BitVec.ofNat 32 (x * 2 ^ k) ||| BitVec.ofNat 32 y = BitVec.ofNat 32 (x * 2 ^ k ||| y)
  rw [BitVec.ofNat_or]
theorem b_sh8 {x y : Nat} (hx : x < 2 ^ 24) (hy : y < 256) : (nI x <<< (nI 8 &&& 31)) ||| nI y = nI (x * 256 + y) := by
  rw [b_shl 8 (by decide) (by omega)]
  exact b_or (k := 8) hy
theorem l_c : ∀ k, k < 64 → ((nI k).toInt64.toUInt64 &&& Int64.toUInt64 63) = UInt64.ofNat k := by decide +kernel
theorem l_shr {n k : Nat} (hn : n < 2 ^ 63) (hk : k < 64) : ((lN n).toUInt64 >>> ((nI k).toInt64.toUInt64 &&& Int64.toUInt64 63)).toInt64 = lN (n / 2 ^ k) := by
  rw [l_c k hk]
  apply Int64.toBitVec_inj.mp
  apply BitVec.eq_of_toNat_eq
  show ((lN n).toUInt64 >>> UInt64.ofNat k).toNat = (BitVec.ofNat 64 (n / 2 ^ k)).toNat
  rw [UInt64.toNat_shiftRight, BitVec.toNat_ofNat]
  have e1 : (lN n).toUInt64.toNat = n := by
    show (BitVec.ofNat 64 n).toNat = n
    rw [BitVec.toNat_ofNat]
    omega
  have e2 : (UInt64.ofNat k).toNat % 64 = k := by
    rw [UInt64.toNat_ofNat']
    omega
  rw [e1, e2, Nat.shiftRight_eq_div_pow]
  have : n / 2 ^ k ≤ n := Nat.div_le_self _ _
  exact (Nat.mod_eq_of_lt (Nat.lt_of_le_of_lt this (by omega))).symm
theorem h_len {n k : Nat} (hn : n < 100000) (hk : k < 64) : (((8 * (nI n).toInt64).toUInt64 >>> ((nI k).toInt64.toUInt64 &&& Int64.toUInt64 63)).toInt64.toInt32) &&& nI 255 = nI (8 * n / 2 ^ k % 256) := by
  rw [nI_l (by omega), show (8 : Int64) = lN 8 from rfl, lN_mul, l_shr (by omega) hk, lN_i]
  have : 8 * n / 2 ^ k ≤ 8 * n := Nat.div_le_self _ _
  exact b_255 (Nat.lt_of_le_of_lt this (by omega))
theorem cp_s {n d i v : Nat} {f g : Nat → Nat} (h : v = f i) : ∀ j, j < n → nA (va_up (va_cpy f g 0 d i) (d + i) v) j = nA (va_cpy f g 0 d (i + 1)) j := by
  intro j _
  refine congrArg nI ?_
  by_cases h1 : j = d + i
  · subst h1
    rw [va_up_self, pk_cpy_in (by omega) (by omega), h]
    congr 1; omega
  · rw [va_up_ne _ _ h1]
    by_cases h2 : d ≤ j ∧ j < d + i
    · rw [pk_cpy_in h2.1 h2.2, pk_cpy_in h2.1 (by omega)]
    · rw [pk_cpy_out (by omega), pk_cpy_out (by omega)]
theorem cp_z {n d : Nat} {f g : Nat → Nat} : ∀ j, j < n → nA g j = nA (va_cpy f g 0 d 0) j := fun j _ => congrArg nI (pk_cpy_out (by omega)).symm
theorem cp_0i {n : Nat} {f g : Nat → Int32} : ∀ j, j < n → va_cpy f g 0 0 n j = f j := fun j h => by rw [pk_cpy_in (Nat.zero_le j) (by omega)]; congr 1; omega
theorem h_cpE {Hf W x : Nat → Int32} (h : ∀ i, x i = h_rd Hf W 64 i) : ∀ j, j < 8 → upd (upd (upd (upd (upd (upd (upd (upd Hf 0 (Hf 0 + x 0)) 1 (Hf 1 + x 1)) 2 (Hf 2 + x 2)) 3 (Hf 3 + x 3)) 4 (Hf 4 + x 4)) 5 (Hf 5 + x 5)) 6 (Hf 6 + x 6)) 7 (Hf 7 + x 7) j = h_cp Hf W j := by
  intro j hj
  unfold h_cp
  rcases (show j = 0 ∨ j = 1 ∨ j = 2 ∨ j = 3 ∨ j = 4 ∨ j = 5 ∨ j = 6 ∨ j = 7 by omega) with rfl | rfl | rfl | rfl | rfl | rfl | rfl | rfl <;> simp [upd, h]
end
section
/-! The world behind a call, cell by cell in its place; the family of pools. -/
def x_sets (ws : va_W) : List Nat → va_W → va_W
  | i :: is, e :: es => x_sets (ws.set i e) is es
  | [], _ => ws
  | _ :: _, [] => ws
theorem x_sets_out (is : List Nat) : ∀ (ws es : va_W) (k : Nat), k ∉ is → (x_sets ws is es)[k]? = ws[k]? := by
  induction is with
  | nil => intro ws es k _; cases es <;> rfl
  | cons i is ih =>
    intro ws es k hk
    cases es with
    | nil => rfl
    | cons e es =>
      show (x_sets (ws.set i e) is es)[k]? = ws[k]?
      rw [ih _ _ k (fun h => hk (List.mem_cons_of_mem _ h)), List.getElem?_set_ne]
      intro h
      exact hk (h ▸ List.mem_cons_self)
theorem x_sets_len (is : List Nat) : ∀ (ws es : va_W), (x_sets ws is es).length = ws.length := by
  induction is with
  | nil => intro ws es; cases es <;> rfl
  | cons i is ih =>
    intro ws es
    cases es with
    | nil => rfl
    | cons e es => exact (ih _ _).trans (List.length_set ..)
theorem x_sets_in (is : List Nat) : ∀ (ws es : va_W) (j i : Nat) (e : Nat × va_E), va_nd is = true → is[j]? = some i → es[j]? = some e → i < ws.length → (x_sets ws is es)[i]? = some e := by
  induction is with
  | nil => intro ws es j i e _ h; simp at h
  | cons i0 is ih =>
    intro ws es j i e hn hj he hl
    simp only [va_nd, Bool.and_eq_true, decide_eq_true_eq] at hn
    cases es with
    | nil => simp at he
    | cons e0 es =>
      show (x_sets (ws.set i0 e0) is es)[i]? = some e
      cases j with
      | zero =>
        rw [List.getElem?_cons_zero] at hj he
        cases hj
        cases he
        rw [x_sets_out is _ _ _ hn.1, List.getElem?_set_self hl]
      | succ j =>
        rw [List.getElem?_cons_succ] at hj he
        exact ih _ _ j i e hn.2 hj he (by rw [List.length_set]; exact hl)
theorem x_at {ws : va_W} {w0 : va_W} {isC : List Nat} (hC : isC.map (fun i => ws[i]?) = w0.map some) {k : Nat} {q : Nat × va_E} (h : w0[k]? = some q) : ∃ i : Nat, isC[k]? = some i ∧ ws[i]? = some q := by
  have h1 : (isC.map (fun i => ws[i]?))[k]? = some (some q) := by rw [hC, List.getElem?_map, h]; rfl
  rw [List.getElem?_map] at h1
  obtain ⟨i, hi, hi2⟩ := Option.map_eq_some_iff.mp h1
  exact ⟨i, hi, hi2⟩
section XI
variable {p : Program} {l : Launch} {e : Env} {R : Room} {s : State} {m : MethodId} {args : Array Value} {below : List Frame} {meth : Method} {c : Code} {H : Heap} {locs : List Loc} {cells slots : Nat} {Q : State → Prop}
variable {cc : ByteArray} {pc : Nat} {ls : Array Slot} {rest : List Value} {A : Nat → Prop} {a : Nat} {ws : va_W} {G : xG} {nL : Nat} {own : String}
theorem x_aftI (B : xB G A s H locs ws) {w0 w1 : va_W} (isC : List Nat) (hC : isC.map (fun i => ws[i]?) = w0.map some) (hn : va_nd isC = true) (hlen : w1.length = w0.length)
    {t : State} {H1 : Heap} {locs1 : List Loc} (ht : t.heap = H1) (hB : xPost G (va_A w0 H.size) w1 t) (hk1 : ∀ q : Nat, q < H.size → ¬ va_A w0 H.size q → H1[q]? = H[q]?) (hS : va_S A s.heap H1 locs1) : xB G A s H1 locs1 (x_sets ws isC w1) := by
  obtain ⟨g1, g2, g3⟩ := hB
  rw [ht] at g1
  have hlC : isC.length = w0.length := by
    have := congrArg List.length hC
    simpa using this
  have hF := va_free B.2.2.1 B.2.2.2.1 B.2.2.2.2.2 isC hC
  -- what stands at a place of the new world
  have key : ∀ (k : Nat) (q : Nat × va_E), (x_sets ws isC w1)[k]? = some q → (∃ j : Nat, isC[j]? = some k ∧ w1[j]? = some q) ∨ (k ∉ isC ∧ ws[k]? = some q) := by
    intro k q hk
    by_cases hm : k ∈ isC
    · left
      obtain ⟨j, hj⟩ := List.getElem?_of_mem hm
      have hjl : j < isC.length := (List.getElem?_eq_some_iff.mp hj).1
      have hw : w1[j]? = some (w1[j]'(by omega)) := List.getElem?_eq_getElem (by omega)
      have hkl : k < ws.length := by
        have h0 : k < (x_sets ws isC w1).length := (List.getElem?_eq_some_iff.mp hk).1
        rw [x_sets_len] at h0
        exact h0
      have h2 := x_sets_in isC ws w1 j k _ hn hj hw hkl
      rw [h2] at hk
      exact ⟨j, hj, by rw [hw]; exact hk⟩
    · right
      rw [x_sets_out isC _ _ _ hm] at hk
      exact ⟨hm, hk⟩
  have old : ∀ (k : Nat) (q : Nat × va_E), k ∉ isC → ws[k]? = some q → ¬ va_A w0 H.size q.1 := by
    intro k q hm hk h
    rcases h with ⟨z, e, hz⟩ | h
    · obtain ⟨i, hi, hi2⟩ := x_at hC hz
      have := B.2.2.1.1 i k _ _ hi2 hk rfl
      subst this
      exact hm (List.mem_of_getElem? hi)
    · exact absurd (B.2.1 k q hk).lt (Nat.not_lt.mpr h)
  refine ⟨B.1, fun k q hk => ?_, ⟨fun i j x y hi hj hxy => ?_, fun k q hk => ?_⟩, hS, B.2.2.2.2⟩
  · rcases key k q hk with ⟨j, -, hj⟩ | ⟨hm, hk⟩
    · exact g1 j q hj
    · exact (B.2.1 k q hk).kept (hk1 _ (B.2.1 k q hk).lt (old k q hm hk))
  · rcases key i x hi with ⟨a1, h1, h2⟩ | ⟨h1, h2⟩
    · rcases key j y hj with ⟨a2, h3, h4⟩ | ⟨h3, h4⟩
      · have := g3.1 a1 a2 _ _ h2 h4 hxy
        subst this
        rw [h1] at h3
        exact Option.some.inj h3
      · exact absurd (hxy ▸ g3.2 a1 x h2) (old j y h3 h4)
    · rcases key j y hj with ⟨a2, h3, h4⟩ | ⟨h3, h4⟩
      · exact absurd (hxy ▸ g3.2 a2 y h4) (old i x h1 h2)
      · exact B.2.2.1.1 i j x y h2 h4 hxy
  · rcases key k q hk with ⟨j, -, hj⟩ | ⟨hm, hk⟩
    · exact hF _ (g3.2 j q hj)
    · exact B.2.2.1.2 k q hk
theorem x_cvI {S : Type} {post : S → Prop} {w1 : S → va_W} {w0 : va_W} {mc ms : Nat} {st0 : List Value} {av : Array Value} (B : xB G A s H locs ws) (hr : va_Run p l e R s m args below meth c H locs cells slots mc ms (F0 m pc ls st0) rest (va_Qv post (fun u t => xPost G (va_A w0 H.size) (w1 u) t) (va_A w0 H.size) av) (va_A w0 H.size))
    (isC : List Nat) (hC : isC.map (fun i => ws[i]?) = w0.map some) (hn : va_nd isC = true) (hlen : ∀ u, (w1 u).length = w0.length)
    (kk : ∀ (u : S) (H1 : Heap) (locs1 : List Loc), post u → xB G A s H1 locs1 (x_sets ws isC (w1 u)) → W p l e R s m args below meth c H1 locs1 (cells + mc) (slots + ms) Q (F0 m (pc + 3) ls rest)) : W p l e R s m args below meth c H locs cells slots Q (F0 m pc ls st0) :=
  have hF := va_free B.2.2.1 B.2.2.2.1 B.2.2.2.2.2 isC hC
  va_callv hr B.2.2.2.1 (fun q _ h => hF q h) hF (fun u t H1 locs1 ht hvm hw hB _ hk1 hS => kk u H1 locs1 hw (x_aftI B isC hC hn (hlen u) ht hB hk1 hS))
theorem x_ciI {S : Type} {post : Int32 → S → Prop} {w1 : S → va_W} {w0 : va_W} {mc ms : Nat} {st0 : List Value} {av : Array Value} (B : xB G A s H locs ws) (hr : va_Run p l e R s m args below meth c H locs cells slots mc ms (F0 m pc ls st0) rest (va_Qi post (fun u t => xPost G (va_A w0 H.size) (w1 u) t) (va_A w0 H.size) av) (va_A w0 H.size))
    (isC : List Nat) (hC : isC.map (fun i => ws[i]?) = w0.map some) (hn : va_nd isC = true) (hlen : ∀ u, (w1 u).length = w0.length)
    (kk : ∀ (r : Int32) (u : S) (H1 : Heap) (locs1 : List Loc), post r u → xB G A s H1 locs1 (x_sets ws isC (w1 u)) → W p l e R s m args below meth c H1 locs1 (cells + mc) (slots + ms) Q (F0 m (pc + 3) ls (.int r :: rest))) : W p l e R s m args below meth c H locs cells slots Q (F0 m pc ls st0) :=
  have hF := va_free B.2.2.1 B.2.2.2.1 B.2.2.2.2.2 isC hC
  va_calli hr B.2.2.2.1 (fun q _ h => hF q h) hF (fun r u t H1 locs1 ht hvm hw hB _ hk1 hS => kk r u H1 locs1 hw (x_aftI B isC hC hn (hlen u) ht hB hk1 hS))
end XI
/-- the pools: 32 objects, 32 rows -/
def x_po (ba len : Nat → Nat) (j : Nat) : va_E := .inr (4, [.ref (ba j), .int (nI (len j))])
def x_pl (G : xG) (pa ba cap len : Nat → Nat) (pb : Nat → Nat → Nat) : va_W :=
  (List.range 32).map (fun j => (pa j, x_po ba len j)) ++ (List.range 32).map (fun j => (ba j, x_N G (cap j) (pb j)))
theorem x_pl_o (G : xG) (pa ba cap len : Nat → Nat) (pb : Nat → Nat → Nat) {j : Nat} (h : j < 32) : (x_pl G pa ba cap len pb)[j]? = some (pa j, .inr (4, [.ref (ba j), .int (nI (len j))])) := by
  unfold x_pl
  rw [List.getElem?_append_left (by simpa using h), List.getElem?_map, List.getElem?_range h]
  rfl
theorem x_pl_a (G : xG) (pa ba cap len : Nat → Nat) (pb : Nat → Nat → Nat) {j : Nat} (h : j < 32) : (x_pl G pa ba cap len pb)[32 + j]? = some (ba j, x_N G (cap j) (pb j)) := by
  unfold x_pl
  rw [List.getElem?_append_right (by simp), List.getElem?_map]
  rw [show 32 + j - (List.map (fun j => (pa j, x_po ba len j)) (List.range 32)).length = j by simp, List.getElem?_range h]
  rfl
theorem x_pl_len (G : xG) (pa ba cap len : Nat → Nat) (pb : Nat → Nat → Nat) : (x_pl G pa ba cap len pb).length = 64 := by simp [x_pl]
theorem x_pl_ext {G : xG} {pa ba cap len pa' ba' cap' len' : Nat → Nat} {pb pb' : Nat → Nat → Nat} {L : va_W} (hl : L.length = 64) (h1 : ∀ j, j < 32 → L[j]? = some (pa' j, .inr (4, [.ref (ba' j), .int (nI (len' j))]))) (h2 : ∀ j, j < 32 → L[32 + j]? = some (ba' j, x_N G (cap' j) (pb' j))) : L = x_pl G pa' ba' cap' len' pb' := by
  apply List.ext_getElem?
  intro k
  by_cases h : k < 32
  · rw [h1 k h, x_pl_o G pa' ba' cap' len' pb' h]
  · by_cases h3 : k < 64
    · have := h2 (k - 32) (by omega)
      rw [show 32 + (k - 32) = k by omega] at this
      rw [this]
      have h4 := x_pl_a G pa' ba' cap' len' pb' (j := k - 32) (by omega)
      rw [show 32 + (k - 32) = k by omega] at h4
      exact h4.symm
    · rw [List.getElem?_eq_none (by omega), List.getElem?_eq_none (by rw [x_pl_len]; omega)]
/-- a pool's length is set -/
theorem x_pl_sl (G : xG) (pa ba cap len : Nat → Nat) (pb : Nat → Nat → Nat) {j : Nat} (h : j < 32) (v : Nat) : (x_pl G pa ba cap len pb).set j (pa j, .inr (4, [.ref (ba j), .int (nI v)])) = x_pl G pa ba cap (va_up len j v) pb := by
  refine x_pl_ext (pa := pa) (ba := ba) (cap := cap) (len := len) (pb := pb) (by rw [List.length_set, x_pl_len]) (fun k hk => ?_) (fun k hk => ?_)
  · by_cases e : k = j
    · subst e
      rw [List.getElem?_set_self (by rw [x_pl_len]; omega), va_up_self]
    · rw [List.getElem?_set_ne (Ne.symm e), x_pl_o G pa ba cap len pb hk, va_up_ne _ _ e]
  · rw [List.getElem?_set_ne (by omega), x_pl_a G pa ba cap len pb hk]
/-- a pool and its row are set -/
theorem x_pl_s2 (G : xG) (pa ba cap len : Nat → Nat) (pb : Nat → Nat → Nat) {j : Nat} (h : j < 32) (b k0 v : Nat) (g : Nat → Nat) : x_sets (x_pl G pa ba cap len pb) [j, 32 + j] [(pa j, .inr (4, [.ref b, .int (nI v)])), (b, x_N G k0 g)] = x_pl G pa (va_up ba j b) (va_up cap j k0) (va_up len j v) (va_up pb j g) := by
  have hnd : va_nd [j, 32 + j] = true := by simp [va_nd]
  refine x_pl_ext (pa := pa) (ba := ba) (cap := cap) (len := len) (pb := pb) (by rw [x_sets_len, x_pl_len]) (fun k hk => ?_) (fun k hk => ?_)
  · by_cases e : k = j
    · subst e
      rw [x_sets_in [k, 32 + k] _ _ 0 k _ hnd rfl rfl (by rw [x_pl_len]; omega), va_up_self, va_up_self]
    · rw [x_sets_out _ _ _ _ (by simp; omega), x_pl_o G pa ba cap len pb hk, va_up_ne _ _ e, va_up_ne _ _ e]
  · by_cases e : k = j
    · subst e
      rw [x_sets_in [k, 32 + k] _ _ 1 (32 + k) _ hnd rfl rfl (by rw [x_pl_len]; omega), va_up_self, va_up_self, va_up_self]
    · rw [x_sets_out _ _ _ _ (by simp; omega), x_pl_a G pa ba cap len pb hk, va_up_ne _ _ e, va_up_ne _ _ e, va_up_ne _ _ e]
end
section
abbrev x_Q (G : xG) (n : Nat) (f : Nat → Option Nat) : va_E := .inl (G.2.2.1, n, .inr (.inr (.inr (.inr f))))
section XP
variable {p : Program} {l : Launch} {e : Env} {R : Room} {s : State} {m : MethodId} {args : Array Value} {below : List Frame} {meth : Method} {c : Code} {H : Heap} {locs : List Loc} {cells slots : Nat} {Q : State → Prop}
variable {cc : ByteArray} {pc : Nat} {ls : Array Slot} {rest : List Value} {A : Nat → Prop} {a : Nat} {ws X : va_W} {G : xG} {nL N : Nat} {own : String}
variable {pa ba cap len : Nat → Nat} {pb : Nat → Nat → Nat}
theorem x_plO (hX : X.length = N) {j : Nat} (h : j < 32) : (X ++ x_pl G pa ba cap len pb)[N + j]? = some (pa j, .inr (4, [.ref (ba j), .int (nI (len j))])) := by
  subst hX
  rw [List.getElem?_append_right (by omega), show X.length + j - X.length = j by omega]
  exact x_pl_o G pa ba cap len pb h
theorem x_plA (hX : X.length = N) {j : Nat} (h : j < 32) : (X ++ x_pl G pa ba cap len pb)[N + (32 + j)]? = some (ba j, x_N G (cap j) (pb j)) := by
  subst hX
  rw [List.getElem?_append_right (by omega), show X.length + (32 + j) - X.length = 32 + j by omega]
  exact x_pl_a G pa ba cap len pb h
theorem x_aldp (E : CallFix p m c cc nL s args gg_L own) (B : xB G A s H locs ws) (q0 : Nat) {n : Nat} {pa : Nat → Nat} (he : ws[q0]? = some (a, x_Q G n (fun j => some (pa j)))) {i : Nat} (hi : i < n) (hn : n < 2 ^ 31) (hdg : decode cc pc = .ok (.aaload, 1)) (kk : W p l e R s m args below meth c H locs cells slots Q (F0 m (pc + 1) ls (.ref (pa i) :: rest))) : W p l e R s m args below meth c H locs cells slots Q (F0 m pc ls (.int (nI i) :: .ref a :: rest)) :=
  va_aldq (D := G.1) E.1 E.2.1 B.1 B.2.1 q0 1 he rfl (vp_in_nI hi hn) hdg (by rw [nI_clamp (by omega)]; exact kk)
theorem x_getP (E : CallFix p m c cc nL s args gg_L own) (hX : X.length = N) (B : xB G A s H locs (X ++ x_pl G pa ba cap len pb)) {j : Nat} (hj : j < 32) {index : Nat} (hlink : Cond.fieldLink own index "PoolDice$Pool" "bytes" "[I" ∈ gg_L) (hdg : decode cc pc = .ok (.getfield index, 3)) (kk : W p l e R s m args below meth c H locs cells slots Q (F0 m (pc + 3) ls (.ref (ba j) :: rest))) : W p l e R s m args below meth c H locs cells slots Q (F0 m pc ls (.ref (pa j) :: rest)) :=
  x_get E B (N + j) (x_plO hX hj) k_Po 0 (by decide) hlink rfl hdg kk
theorem x_getL (E : CallFix p m c cc nL s args gg_L own) (hX : X.length = N) (B : xB G A s H locs (X ++ x_pl G pa ba cap len pb)) {j : Nat} (hj : j < 32) {index : Nat} (hlink : Cond.fieldLink own index "PoolDice$Pool" "size" "I" ∈ gg_L) (hdg : decode cc pc = .ok (.getfield index, 3)) (kk : W p l e R s m args below meth c H locs cells slots Q (F0 m (pc + 3) ls (.int (nI (len j)) :: rest))) : W p l e R s m args below meth c H locs cells slots Q (F0 m pc ls (.ref (pa j) :: rest)) :=
  x_get E B (N + j) (x_plO hX hj) k_Po 1 (by decide) hlink rfl hdg kk
theorem x_setA (L : va_W) (hX : X.length = N) (j : Nat) (v : Nat × va_E) : (X ++ L).set (N + j) v = X ++ L.set j v := by
  subst hX
  rw [List.set_append_right _ _ (by omega), show X.length + j - X.length = j by omega]
theorem x_putL (E : CallFix p m c cc nL s args gg_L own) (hX : X.length = N) (B : xB G A s H locs (X ++ x_pl G pa ba cap len pb)) {j : Nat} (hj : j < 32) {index : Nat} (hlink : Cond.fieldLink own index "PoolDice$Pool" "size" "I" ∈ gg_L) {v : Nat} (hdg : decode cc pc = .ok (.putfield index, 3)) (kk : ∀ (H1 : Heap) (locs1 : List Loc), xB G A s H1 locs1 (X ++ x_pl G pa ba cap (va_up len j v) pb) → W p l e R s m args below meth c H1 locs1 cells slots Q (F0 m (pc + 3) ls rest)) : W p l e R s m args below meth c H locs cells slots Q (F0 m pc ls (.int (nI v) :: .ref (pa j) :: rest)) :=
  x_put E B (N + j) (x_plO hX hj) k_Po 1 (by decide) hlink rfl rfl rfl (Nat.le_of_ble_eq_true rfl) hdg (fun H1 l1 h => kk H1 l1 (by
    have e := x_setA (x_pl G pa ba cap len pb) hX j (pa j, .inr (4, [.ref (ba j), .int (nI v)]))
    rw [x_pl_sl G pa ba cap len pb hj v] at e
    rw [← e]
    exact h))
theorem x_roP (hX : X.length = N) (B : xB G A s H locs (X ++ x_pl G pa ba cap len pb)) {j : Nat} (hj : j < 32) {w0 : va_W} (isC : List Nat) (hC : isC.map (fun i => (X ++ x_pl G pa ba cap len pb)[i]?) = w0.map some) (hlt : ∀ i ∈ isC, i < N) : x_R (va_A w0 H.size) s H (ba j) (cap j) (nA (pb j)) :=
  x_ro_w B (N + (32 + j)) (x_plA hX hj) isC hC (fun h => by have := hlt _ h; omega)
/-- what is at a pool's two places, for a call -/
theorem x_plC (hX : X.length = N) {j : Nat} (hj : j < 32) : ([N + j, N + (32 + j)] : List Nat).map (fun i => (X ++ x_pl G pa ba cap len pb)[i]?) = ([(pa j, .inr (4, [.ref (ba j), .int (nI (len j))])), (ba j, x_N G (cap j) (pb j))] : va_W).map some := by
  simp only [List.map_cons, List.map_nil]
  rw [x_plO hX hj, x_plA hX hj]
theorem x_plN {j : Nat} : va_nd [N + j, N + (32 + j)] = true := by simp [va_nd]
theorem x_plW (hX : X.length = N) {j : Nat} (hj : j < 32) (b k0 v : Nat) (g : Nat → Nat) : x_sets (X ++ x_pl G pa ba cap len pb) [N + j, N + (32 + j)] [(pa j, .inr (4, [.ref b, .int (nI v)])), (b, x_N G k0 g)] = X ++ x_pl G pa (va_up ba j b) (va_up cap j k0) (va_up len j v) (va_up pb j g) := by
  rw [← x_pl_s2 G pa ba cap len pb hj b k0 v g]
  show (((X ++ x_pl G pa ba cap len pb).set (N + j) _).set (N + (32 + j)) _) = X ++ (((x_pl G pa ba cap len pb).set j _).set (32 + j) _)
  rw [x_setA _ hX, x_setA _ hX]
end XP
end
section
section XX
variable {p : Program} {l : Launch} {e : Env} {R : Room} {s : State} {m : MethodId} {args : Array Value} {below : List Frame} {meth : Method} {c : Code} {H : Heap} {locs : List Loc} {cells slots : Nat} {Q : State → Prop}
variable {cc : ByteArray} {pc : Nat} {ls : Array Slot} {rest : List Value} {A : Nat → Prop} {a : Nat} {X X' pl : va_W} {G : xG} {nL : Nat} {own : String}
theorem x_mapE {X : va_W} {w0 : va_W} {isC : List Nat} (h : isC.map (fun i => X[i]?) = w0.map some) {j i : Nat} (hj : isC[j]? = some i) : X[i]? = w0[j]? ∧ i < X.length := by
  have h1 : (isC.map (fun i => X[i]?))[j]? = (w0.map some)[j]? := by rw [h]
  rw [List.getElem?_map, hj, List.getElem?_map] at h1
  cases hw : w0[j]? with
  | none => rw [hw] at h1; simp at h1
  | some e =>
    rw [hw] at h1
    have h2 : X[i]? = some e := by simpa using h1
    exact ⟨h2, (List.getElem?_eq_some_iff.mp h2).1⟩
theorem x_aroundE {w0 w1 : va_W} (N : Nat) (hX : X.length = N) (hX' : X'.length = N) (isC isR : List Nat) (hC : isC.map (fun i => X[i]?) = w0.map some) (hn : va_nd isC = true) (hin : isC.map (fun i => X'[i]?) = w1.map some) (hR : isR.map (fun i => X'[i]?) = isR.map (fun i => X[i]?)) (hcov : ∀ k, k < N → k ∈ isC ∨ k ∈ isR) : x_sets (X ++ pl) isC w1 = X' ++ pl := by
  apply List.ext_getElem?
  intro k
  by_cases hm : k ∈ isC
  · obtain ⟨j, hj⟩ := List.getElem?_of_mem hm
    have h1 := x_mapE hin hj
    have h2 := x_mapE hC hj
    have h3 : X'[k]? = some (X'[k]'h1.2) := List.getElem?_eq_getElem h1.2
    rw [x_sets_in isC (X ++ pl) w1 j k _ hn hj (by rw [← h1.1]; exact h3) (by rw [List.length_append]; omega), List.getElem?_append_left h1.2]
    exact h3.symm
  · rw [x_sets_out isC _ _ _ hm]
    by_cases hk : k < N
    · have hr : k ∈ isR := (hcov k hk).resolve_left hm
      obtain ⟨j, hj⟩ := List.getElem?_of_mem hr
      have h4 : (isR.map (fun i => X'[i]?))[j]? = (isR.map (fun i => X[i]?))[j]? := by rw [hR]
      rw [List.getElem?_map, List.getElem?_map, hj] at h4
      have h5 : X'[k]? = X[k]? := by simpa using h4
      rw [List.getElem?_append_left (by omega), List.getElem?_append_left (by omega), h5]
    · rw [List.getElem?_append_right (by omega), List.getElem?_append_right (by omega), hX, hX']
theorem x_cvX {S : Type} {post : S → Prop} {w1 X' : S → va_W} {w0 : va_W} {mc ms : Nat} {st0 : List Value} {av : Array Value} (N : Nat) (B : xB G A s H locs (X ++ pl)) (hr : va_Run p l e R s m args below meth c H locs cells slots mc ms (F0 m pc ls st0) rest (va_Qv post (fun u t => xPost G (va_A w0 H.size) (w1 u) t) (va_A w0 H.size) av) (va_A w0 H.size))
    (isC isR : List Nat) (hC' : isC.map (fun i => (X ++ pl)[i]?) = w0.map some) (hX : X.length = N) (hX' : ∀ u, (X' u).length = N) (hC : isC.map (fun i => X[i]?) = w0.map some) (hn : va_nd isC = true) (hlen : ∀ u, (w1 u).length = w0.length) (hin : ∀ u, isC.map (fun i => (X' u)[i]?) = (w1 u).map some) (hR : ∀ u, isR.map (fun i => (X' u)[i]?) = isR.map (fun i => X[i]?)) (hcov : ∀ k, k < N → k ∈ isC ∨ k ∈ isR)
    (kk : ∀ (u : S) (H1 : Heap) (locs1 : List Loc), post u → xB G A s H1 locs1 (X' u ++ pl) → W p l e R s m args below meth c H1 locs1 (cells + mc) (slots + ms) Q (F0 m (pc + 3) ls rest)) : W p l e R s m args below meth c H locs cells slots Q (F0 m pc ls st0) :=
  x_cvI B hr isC hC' hn hlen (fun u H1 locs1 hw h => kk u H1 locs1 hw (by rw [x_aroundE N hX (hX' u) isC isR hC hn (hin u) (hR u) hcov] at h; exact h))
theorem x_ciX {S : Type} {post : Int32 → S → Prop} {w1 X' : S → va_W} {w0 : va_W} {mc ms : Nat} {st0 : List Value} {av : Array Value} (N : Nat) (B : xB G A s H locs (X ++ pl)) (hr : va_Run p l e R s m args below meth c H locs cells slots mc ms (F0 m pc ls st0) rest (va_Qi post (fun u t => xPost G (va_A w0 H.size) (w1 u) t) (va_A w0 H.size) av) (va_A w0 H.size))
    (isC isR : List Nat) (hC' : isC.map (fun i => (X ++ pl)[i]?) = w0.map some) (hX : X.length = N) (hX' : ∀ u, (X' u).length = N) (hC : isC.map (fun i => X[i]?) = w0.map some) (hn : va_nd isC = true) (hlen : ∀ u, (w1 u).length = w0.length) (hin : ∀ u, isC.map (fun i => (X' u)[i]?) = (w1 u).map some) (hR : ∀ u, isR.map (fun i => (X' u)[i]?) = isR.map (fun i => X[i]?)) (hcov : ∀ k, k < N → k ∈ isC ∨ k ∈ isR)
    (kk : ∀ (r : Int32) (u : S) (H1 : Heap) (locs1 : List Loc), post r u → xB G A s H1 locs1 (X' u ++ pl) → W p l e R s m args below meth c H1 locs1 (cells + mc) (slots + ms) Q (F0 m (pc + 3) ls (.int r :: rest))) : W p l e R s m args below meth c H locs cells slots Q (F0 m pc ls st0) :=
  x_ciI B hr isC hC' hn hlen (fun r u H1 locs1 hw h => kk r u H1 locs1 hw (by rw [x_aroundE N hX (hX' u) isC isR hC hn (hin u) (hR u) hcov] at h; exact h))
theorem xB.subP {locs : List Loc} (B : xB G A s H locs (X ++ pl)) (is : List Nat) (hn : va_nd is = true) (hs : is.map (fun i => X[i]?) = X'.map some) : xB G A s H locs (X' ++ pl) :=
  ⟨B.1, B.2.1.part is hs, B.2.2.1.part is hn hs, B.2.2.2⟩
/-- the callee takes a part of X and all of the family -/
theorem x_preP (B : xB G A s H locs (X ++ pl)) {av : List Value} {ro : List (Nat × Nat × (Nat → Int32))} {cx : va_W} (isC : List Nat) (hC : isC.map (fun i => X[i]?) = cx.map some) (hn : va_nd isC = true) (hro : ∀ r ∈ ro, x_R (va_A (cx ++ pl) H.size) s H r.1 r.2.1 r.2.2) : PreS s H (va_Pc av (xPre G ro (cx ++ pl) H.size)) av := by
  refine ⟨xPre.blind, fun U hU hW => ⟨rfl, by rw [hU], ?_, va_K.moved hW.alike B.1, (B.2.2.1.part isC hn hC).weaken (fun _ _ _ _ => trivial), ?_, fun r hr => ?_⟩⟩
  · rw [hU]
    exact B.2.1.part isC hC
  · rw [hU]
    exact B.2.2.2.2.1.go hW.alike (va_freeP B.2.2.1 B.2.2.2.1 B.2.2.2.2.2 isC hC) (fun a ha hn => B.2.2.2.1.2.1 a ha hn)
  · rw [hU]
    exact (hro r hr).moved hW.alike
theorem x_roTP (B : xB G A s H locs (X ++ pl)) {r n : Nat} {f : Nat → Int32} (hT : x_R A s s.heap r n f) {cx : va_W} (isC : List Nat) (hC : isC.map (fun i => X[i]?) = cx.map some) : x_R (va_A (cx ++ pl) H.size) s H r n f :=
  (va_T.kept hT (fun a ha hn => B.2.2.2.1.2.1 a ha hn)).narrow (va_freeP B.2.2.1 B.2.2.2.1 B.2.2.2.2.2 isC hC)
theorem x_cvP {S : Type} {post : S → Prop} {rx X' pl1 : S → va_W} {cx wr : va_W} {mc ms : Nat} {st0 : List Value} {av : Array Value} (B : xB G A s H locs (X ++ pl)) (hr : va_Run p l e R s m args below meth c H locs cells slots mc ms (F0 m pc ls st0) rest (va_Qv post (fun u t => xPost G (va_A (cx ++ pl) H.size) (rx u ++ pl1 u) t) (va_A (cx ++ pl) H.size) av) (va_A (cx ++ pl) H.size))
    (isC isR isP : List Nat) (hC : isC.map (fun i => X[i]?) = cx.map some) (hR : isR.map (fun i => X[i]?) = wr.map some) (hn : va_nd isR = true) (hdis : ∀ i ∈ isR, i ∉ isC) (hnP : va_nd isP = true) (hP : ∀ u, isP.map (fun i => (wr ++ rx u)[i]?) = (X' u).map some)
    (kk : ∀ (u : S) (H1 : Heap) (locs1 : List Loc), post u → xB G A s H1 locs1 (X' u ++ pl1 u) → W p l e R s m args below meth c H1 locs1 (cells + mc) (slots + ms) Q (F0 m (pc + 3) ls rest)) : W p l e R s m args below meth c H locs cells slots Q (F0 m pc ls st0) :=
  have hF := va_freeP B.2.2.1 B.2.2.2.1 B.2.2.2.2.2 isC hC
  va_callv hr B.2.2.2.1 (fun q _ h => hF q h) hF (fun u t H1 locs1 ht hvm hw hB _ hk1 hS => kk u H1 locs1 hw (by
    obtain ⟨g1, g2, g3⟩ := hB
    rw [ht] at g1
    obtain ⟨k1, k2⟩ := va_joinP B.2.1 B.2.2.1 isC isR hC hR hn hdis hk1 hF g1 g3
    exact xB.subP ⟨B.1, k1, k2, hS, B.2.2.2.2⟩ isP hnP (hP u)))
theorem x_ciP {S : Type} {post : Int32 → S → Prop} {rx X' pl1 : S → va_W} {cx wr : va_W} {mc ms : Nat} {st0 : List Value} {av : Array Value} (B : xB G A s H locs (X ++ pl)) (hr : va_Run p l e R s m args below meth c H locs cells slots mc ms (F0 m pc ls st0) rest (va_Qi post (fun u t => xPost G (va_A (cx ++ pl) H.size) (rx u ++ pl1 u) t) (va_A (cx ++ pl) H.size) av) (va_A (cx ++ pl) H.size))
    (isC isR isP : List Nat) (hC : isC.map (fun i => X[i]?) = cx.map some) (hR : isR.map (fun i => X[i]?) = wr.map some) (hn : va_nd isR = true) (hdis : ∀ i ∈ isR, i ∉ isC) (hnP : va_nd isP = true) (hP : ∀ u, isP.map (fun i => (wr ++ rx u)[i]?) = (X' u).map some)
    (kk : ∀ (r : Int32) (u : S) (H1 : Heap) (locs1 : List Loc), post r u → xB G A s H1 locs1 (X' u ++ pl1 u) → W p l e R s m args below meth c H1 locs1 (cells + mc) (slots + ms) Q (F0 m (pc + 3) ls (.int r :: rest))) : W p l e R s m args below meth c H locs cells slots Q (F0 m pc ls st0) :=
  have hF := va_freeP B.2.2.1 B.2.2.2.1 B.2.2.2.2.2 isC hC
  va_calli hr B.2.2.2.1 (fun q _ h => hF q h) hF (fun r u t H1 locs1 ht hvm hw hB _ hk1 hS => kk r u H1 locs1 hw (by
    obtain ⟨g1, g2, g3⟩ := hB
    rw [ht] at g1
    obtain ⟨k1, k2⟩ := va_joinP B.2.1 B.2.2.1 isC isR hC hR hn hdis hk1 hF g1 g3
    exact xB.subP ⟨B.1, k1, k2, hS, B.2.2.2.2⟩ isP hnP (hP u)))
end XX
theorem xB.eq {G : xG} {A : Nat → Prop} {s : State} {H : Heap} {locs : List Loc} {ws : va_W} (B : xB G A s H locs ws) (ws' : va_W) (h : ws = ws') : xB G A s H locs ws' := h ▸ B
end
section
/-! The disk's writes, the counter, the pools drawn. -/
def d_tc (x : Int32) : Int32 := if nI 1 ≤ x then x else nI 0
/-- writes till the crash, one write later -/
def d_w1 (t : Int32) : Int32 := if nI 1 < t then t - nI 1 else t
def d_wk (t : Int32) : Nat → Int32
  | 0 => t
  | k + 1 => d_w1 (d_wk t k)
/-- how many of 65 writes happen -/
def d_nf (t : Int32) : Nat → Nat → Nat
  | 0, i => i
  | k + 1, i => if d_wk t i = nI 1 then i else d_nf t k (i + 1)
def d_n (t : Int32) : Nat := d_nf t 65 0
def d_nE (t : Int32) (i : Nat) : Prop := i ≤ 65 ∧ d_n t = d_nf t (65 - i) i
theorem d_nE_0 (t : Int32) : d_nE t 0 := ⟨by omega, rfl⟩
theorem d_nE_y {t : Int32} {i : Nat} (h : d_nE t i) (hi : i < 65) (hn : ¬ d_wk t i = nI 1) : d_nE t (i + 1) := by
  refine ⟨by omega, h.2.trans ?_⟩
  rw [show 65 - i = (65 - (i + 1)) + 1 by omega]
  show (if d_wk t i = nI 1 then i else d_nf t (65 - (i + 1)) (i + 1)) = _
  rw [if_neg hn]
theorem d_nE_n {t : Int32} {i : Nat} (h : d_nE t i) (hi : i < 65) (hn : d_wk t i = nI 1) : d_n t = i := by
  refine h.2.trans ?_
  rw [show 65 - i = (65 - (i + 1)) + 1 by omega]
  show (if d_wk t i = nI 1 then i else d_nf t (65 - (i + 1)) (i + 1)) = _
  rw [if_pos hn]
theorem d_nE_e {t : Int32} (h : d_nE t 65) : d_n t = 65 := h.2
def d_fr (d : Nat → Nat) : Nat := if d 0 = 1 then 65 else 1
def d_mk (d : Nat → Nat) : Nat := if d 0 = 1 then 2 else 1
/-- the disk behind k of the 65 writes -/
def d_dk (d sd : Nat → Nat) (k : Nat) : Nat → Nat := if k = 65 then va_up (va_cpy sd d 0 (d_fr d) 64) 0 (d_mk d) else va_cpy sd d 0 (d_fr d) k
def d_te (t : Int32) : Int32 := if d_n t = 65 then d_wk t 65 else nI 0
def d_re (t : Int32) : Nat := if d_n t = 65 then 1 else 0
theorem d_w1a {t : Int32} (h : ¬ t ≤ nI 1) : d_w1 t = t - nI 1 := if_pos (Int32.not_le.mp h)
theorem d_w1b {t : Int32} (h : t ≤ nI 1) : d_w1 t = t := if_neg (Int32.not_lt.mpr h)
theorem d_dk_bt {d sd : Nat → Nat} {k : Nat} (hk : k ≤ 65) (hd : g_bt 129 d) (hs : g_bt 64 sd) : g_bt 129 (d_dk d sd k) := by
  have hc : ∀ i, i ≤ 64 → g_bt 129 (va_cpy sd d 0 (d_fr d) i) := by
    intro i hi j hj
    by_cases h : d_fr d ≤ j ∧ j < d_fr d + i
    · rw [pk_cpy_in h.1 h.2]
      exact hs _ (by omega)
    · rw [pk_cpy_out (by omega)]
      exact hd j hj
  unfold d_dk
  split
  · intro j hj
    by_cases h : j = 0
    · rw [h, va_up_self]
      unfold d_mk
      split <;> decide
    · rw [va_up_ne _ _ h]
      exact hc 64 (by omega) j hj
  · exact hc k (by omega)
/-! the counter -/
def g_ctf (g : Nat → Nat) : Nat → Nat → Nat → Nat
  | 0, i => mx i (fun _ => 0) g
  | k + 1, i => if g i = 255 then g_ctf g k (i + 1) else va_up (mx i (fun _ => 0) g) i (g i + 1)
def g_ct (g : Nat → Nat) : Nat → Nat := g_ctf g 16 0
def g_cE (g : Nat → Nat) (i : Nat) : Prop := i ≤ 16 ∧ g_ct g = g_ctf g (16 - i) i
theorem g_cE_0 (g : Nat → Nat) : g_cE g 0 := ⟨by omega, rfl⟩
theorem g_cE_y {g : Nat → Nat} {i : Nat} (h : g_cE g i) (hi : i < 16) (hg : g i = 255) : g_cE g (i + 1) := by
  refine ⟨by omega, h.2.trans ?_⟩
  rw [show 16 - i = (16 - (i + 1)) + 1 by omega]
  show (if g i = 255 then g_ctf g (16 - (i + 1)) (i + 1) else _) = _
  rw [if_pos hg]
theorem g_cE_n {g : Nat → Nat} {i : Nat} (h : g_cE g i) (hi : i < 16) (hg : ¬ g i = 255) : g_ct g = va_up (mx i (fun _ => 0) g) i (g i + 1) := by
  refine h.2.trans ?_
  rw [show 16 - i = (16 - (i + 1)) + 1 by omega]
  show (if g i = 255 then g_ctf g (16 - (i + 1)) (i + 1) else _) = _
  rw [if_neg hg]
theorem g_cE_e {g : Nat → Nat} (h : g_cE g 16) : g_ct g = mx 16 (fun _ => 0) g := h.2
theorem g_ctf_bt {g : Nat → Nat} (h : g_bt 16 g) : ∀ k i, i + k = 16 → g_bt 16 (g_ctf g k i) := by
  intro k
  induction k with
  | zero =>
    intro i _ j hj
    show mx i (fun _ => 0) g j < 256
    by_cases h1 : j < i
    · rw [mx_lt h1]; decide
    · rw [mx_ge (by omega)]; exact h j hj
  | succ k ih =>
    intro i hi
    show g_bt 16 (if g i = 255 then g_ctf g k (i + 1) else va_up (mx i (fun _ => 0) g) i (g i + 1))
    split
    · exact ih (i + 1) (by omega)
    · intro j hj
      by_cases h1 : j = i
      · rw [h1, va_up_self]
        have := h i (by omega)
        omega
      · rw [va_up_ne _ _ h1]
        by_cases h2 : j < i
        · rw [mx_lt h2]; decide
        · rw [mx_ge (by omega)]; exact h j hj
theorem g_ct_bt {g : Nat → Nat} (h : g_bt 16 g) : g_bt 16 (g_ct g) := g_ctf_bt h 16 0 (by omega)
def g_cts (g : Nat → Nat) : Nat → Nat → Nat
  | 0 => g
  | b + 1 => g_ct (g_cts g b)
theorem g_cts_bt {g : Nat → Nat} (h : g_bt 16 g) (b : Nat) : g_bt 16 (g_cts g b) := by
  induction b with
  | zero => exact h
  | succ b ih => exact g_ct_bt ih
/-- whether the counter is not 0 -/
def g_sd (g : Nat → Nat) : Nat := if (List.range 16).all (fun i => g i == 0) = true then 0 else 1
theorem g_sd_1 {g : Nat → Nat} {i : Nat} (hi : i < 16) (h : ¬ g i = 0) : g_sd g = 1 := if_neg (fun q => h (by simpa using List.all_eq_true.mp q i (List.mem_range.mpr hi)))
theorem g_sd_0 {g : Nat → Nat} (h : ∀ i, i < 16 → g i = 0) : g_sd g = 0 := if_pos (List.all_eq_true.mpr (fun i hi => by simpa using h i (List.mem_range.mp hi)))
/-- GENERATING: b blocks into a row -/
def g_gen (K ctr gi : Nat → Nat) : Nat → Nat → Nat
  | 0 => gi
  | b + 1 => va_cpy (g_blk K (g_cts ctr b) 10) (g_gen K ctr gi b) 0 (16 * b) 16
def g_key (key ctr : Nat → Nat) (nb : Nat) : Nat → Nat := g_blk (g_sch key) (g_cts ctr nb) 10
theorem b_inc {x : Nat} (h : x < 256) : (nI x + nI 1) &&& nI 255 = nI ((x + 1) % 256) := by
  rw [nI_add]
  exact b_255 (by omega)
/-! the pools drawn -/
def r_nf (r : Nat) : Nat → Nat → Nat
  | 0, i => i
  | k + 1, i => if r % 2 ^ i = 0 then r_nf r k (i + 1) else i
def r_n (r : Nat) : Nat := r_nf r 32 0
def r_nE (r i : Nat) : Prop := i ≤ 32 ∧ r_n r = r_nf r (32 - i) i
theorem r_nE_0 (r : Nat) : r_nE r 0 := ⟨by omega, rfl⟩
theorem r_nE_y {r i : Nat} (h : r_nE r i) (hi : i < 32) (hr : r % 2 ^ i = 0) : r_nE r (i + 1) := by
  refine ⟨by omega, h.2.trans ?_⟩
  rw [show 32 - i = (32 - (i + 1)) + 1 by omega]
  show (if r % 2 ^ i = 0 then r_nf r (32 - (i + 1)) (i + 1) else i) = _
  rw [if_pos hr]
theorem r_nE_n {r i : Nat} (h : r_nE r i) (hi : i < 32) (hr : ¬ r % 2 ^ i = 0) : r_n r = i := by
  refine h.2.trans ?_
  rw [show 32 - i = (32 - (i + 1)) + 1 by omega]
  show (if r % 2 ^ i = 0 then r_nf r (32 - (i + 1)) (i + 1) else i) = _
  rw [if_neg hr]
theorem r_nE_e {r : Nat} (h : r_nE r 32) : r_n r = 32 := h.2
theorem r_nf_le (r : Nat) : ∀ k i, i + k = 32 → r_nf r k i ≤ 32 := by
  intro k
  induction k with
  | zero => intro i h; show i ≤ 32; omega
  | succ k ih =>
    intro i h
    show (if r % 2 ^ i = 0 then r_nf r k (i + 1) else i) ≤ 32
    split
    · exact ih _ (by omega)
    · omega
theorem r_n_le (r : Nat) : r_n r ≤ 32 := r_nf_le r 32 0 (by omega)
theorem r_mask : ∀ i, i < 32 → ((nI 1 <<< (nI i &&& 31)) - nI 1).toBitVec.toNat = 2 ^ i - 1 := by decide +kernel
theorem r_and {r i : Nat} (hr : r < 2 ^ 31) (hi : i < 32) : nI r &&& ((nI 1 <<< (nI i &&& 31)) - nI 1) = nI (r % 2 ^ i) := pk_andN (by omega) i (r_mask i hi)
def r_m (r i : Nat) : Nat := if r % 2 ^ i = 0 then 1 else 0
/-- the row that the pools' digests lie in -/
def r_row (pb : Nat → Nat → Nat) (len rr : Nat → Nat) : Nat → Nat → Nat
  | 0 => rr
  | i + 1 => va_cpy (h_tw (pb i) (len i)) (r_row pb len rr i) 0 (16 + 32 * i) 32
def d_pl (d : Nat → Nat) : Nat := if d 0 = 1 then 1 else if d 0 = 2 then 65 else 0
/-- a pool behind an event -/
def p_ev (g : Nat → Nat) (ln sr b : Nat) : Nat → Nat := va_up (va_up (va_up g ln sr) (ln + 1) 1) (ln + 2) b
theorem p_ev_a {g : Nat → Nat} {ln sr b : Nat} (j : Nat) : va_up (va_up (va_up g ln sr) (ln + 1) 1) (ln + 2) b j = p_ev g ln sr b j := rfl
theorem p_ev_b {g z : Nat → Nat} {ln sr b : Nat} (j : Nat) (hj : j < ln + 3) : va_up (va_up (va_up (va_cpy g z 0 0 ln) ln sr) (ln + 1) 1) (ln + 2) b j = p_ev g ln sr b j := by
  unfold p_ev
  by_cases h1 : j = ln + 2
  · rw [h1, va_up_self, va_up_self]
  · rw [va_up_ne _ _ h1, va_up_ne _ _ h1]
    by_cases h2 : j = ln + 1
    · rw [h2, va_up_self, va_up_self]
    · rw [va_up_ne _ _ h2, va_up_ne _ _ h2]
      by_cases h3 : j = ln
      · rw [h3, va_up_self, va_up_self]
      · rw [va_up_ne _ _ h3, va_up_ne _ _ h3, pk_cpy_in (by omega) (by omega)]
        congr 1; omega
def c_pt (ck ms : Int32) : Int32 := if 0 < ms ∧ ms ≤ 2147483647 - ck then ck + ms else ck
def c_du (l0 : Nat) (ck lt : Int32) : Nat := if 32 ≤ l0 ∧ (lt = -1 ∨ nI 100 ≤ ck - lt) then 1 else 0
theorem x_pl_c {G : xG} {pa ba cap len len' : Nat → Nat} {pb : Nat → Nat → Nat} (h : ∀ j, j < 32 → len j = len' j) : x_pl G pa ba cap len pb = x_pl G pa ba cap len' pb :=
  x_pl_ext (pa := pa) (ba := ba) (cap := cap) (len := len) (pb := pb) (x_pl_len ..) (fun j hj => by rw [x_pl_o G pa ba cap len pb hj, h j hj]) (fun j hj => x_pl_a G pa ba cap len pb hj)
theorem g_ctR {ctr : Nat → Nat} {i : Nat} (h : g_cE ctr i) (hi : i < 16) (hc : ctr i < 256) (hn : ¬ (ctr i + 1) % 256 = 0) : ∀ j, j < 16 → nA (va_up (mx i (fun _ => 0) ctr) i ((ctr i + 1) % 256)) j = nA (g_ct ctr) j := by
  intro j _
  rw [g_cE_n h hi (by omega), show (ctr i + 1) % 256 = ctr i + 1 by omega]
theorem g_ctX {ctr : Nat → Nat} (h : g_cE ctr 16) : ∀ j, j < 16 → nA (mx 16 (fun _ => 0) ctr) j = nA (g_ct ctr) j := by
  intro j _
  rw [g_cE_e h]
theorem r_m0 {r i : Nat} (h : r_m r i = 0) : ¬ r % 2 ^ i = 0 := fun q => by unfold r_m at h; rw [if_pos q] at h; cases h
theorem r_m1 {r i : Nat} (h : ¬ r_m r i = 0) : r % 2 ^ i = 0 := by
  by_cases q : r % 2 ^ i = 0
  · exact q
  · exact absurd (by unfold r_m; rw [if_neg q]) h
theorem r_m_lt (r i : Nat) : r_m r i < 2 := by unfold r_m; split <;> omega
/-- KEY and row in one row: bytes -/
theorem r_cpb {f g : Nat → Nat} {sp dp k e : Nat} (hf : ∀ j, j < k → f (sp + j) < 256) (hg : ∀ j, j < e → (j < dp ∨ dp + k ≤ j) → g j < 256) : ∀ j, j < e → va_cpy f g sp dp k j < 256 := by
  intro j hj
  by_cases h : dp ≤ j ∧ j < dp + k
  · rw [pk_cpy_in h.1 h.2]
    exact hf _ (by omega)
  · rw [pk_cpy_out (by omega)]
    exact hg j hj (by omega)
theorem r_rowb {pb : Nat → Nat → Nat} {len rr : Nat → Nat} (i : Nat) : ∀ j, 16 ≤ j → j < 16 + 32 * i → r_row pb len rr i j < 256 := by
  induction i with
  | zero => intro j h1 h2; omega
  | succ i ih =>
    intro j h1 h2
    show va_cpy (h_tw (pb i) (len i)) (r_row pb len rr i) 0 (16 + 32 * i) 32 j < 256
    by_cases h : 16 + 32 * i ≤ j
    · rw [pk_cpy_in h (by omega)]
      exact h_tw_lt _ _ _
    · rw [pk_cpy_out (by omega)]
      exact ih j h1 (by omega)
theorem r_drb {pb : Nat → Nat → Nat} {len rr key : Nat → Nat} (hk : g_bt 16 key) (i : Nat) : ∀ j, j < 16 + 32 * i → va_cpy key (r_row pb len rr i) 0 0 16 j < 256 :=
  r_cpb (fun j h => by rw [Nat.zero_add]; exact hk j h) (fun j h1 h2 => r_rowb i j (by omega) h1)
theorem c_pt_y {ck ms : Int32} (h1 : ¬ ms ≤ 0) (h2 : ¬ 2147483647 - ck < ms) : c_pt ck ms = ck + ms := if_pos ⟨Int32.not_le.mp h1, Int32.not_lt.mp h2⟩
theorem c_pt_a {ck ms : Int32} (h1 : ms ≤ 0) : c_pt ck ms = ck := if_neg (fun q => absurd h1 (Int32.not_le.mpr q.1))
theorem c_pt_b {ck ms : Int32} (h2 : 2147483647 - ck < ms) : c_pt ck ms = ck := if_neg (fun q => absurd h2 (Int32.not_lt.mpr q.2))
theorem c_du_0 {l0 : Nat} {ck lt : Int32} (h : l0 < 32) : nI 0 = nI (c_du l0 ck lt) := by unfold c_du; rw [if_neg (by omega)]
theorem c_du_1 {l0 : Nat} {ck lt : Int32} (h : 32 ≤ l0) (h2 : lt = -1) : nI 1 = nI (c_du l0 ck lt) := by unfold c_du; rw [if_pos ⟨h, Or.inl h2⟩]
theorem c_du_2 {l0 : Nat} {ck lt : Int32} (h : 32 ≤ l0) (h3 : ¬ ck - lt < nI 100) : nI 1 = nI (c_du l0 ck lt) := by unfold c_du; rw [if_pos ⟨h, Or.inr (Int32.not_lt.mp h3)⟩]
theorem c_du_3 {l0 : Nat} {ck lt : Int32} (h2 : ¬ lt = -1) (h3 : ck - lt < nI 100) : nI 0 = nI (c_du l0 ck lt) := by unfold c_du; rw [if_neg (fun q => q.2.elim h2 (fun z => absurd h3 (Int32.not_lt.mpr z)))]
theorem r_wb {key f rr : Nat → Nat} {fr cnt : Nat} (hk : g_bt 16 key) (hf : ∀ j, j < cnt → f (fr + j) < 256) : ∀ j, j < 16 + cnt → va_cpy key (va_cpy f rr fr 16 cnt) 0 0 16 j < 256 :=
  r_cpb (fun j h => by rw [Nat.zero_add]; exact hk j h) (fun j h1 h2 => by rw [pk_cpy_in (by omega) (by omega)]; exact hf _ (by omega))
theorem r_nE_x {r i : Nat} (h : r_nE r i) (hi : 32 ≤ i) : r_n r = i := by
  have h1 := h.1
  obtain rfl : i = 32 := by omega
  exact r_nE_e h
theorem x_ix {x : Int32} {n : Nat} (h1 : ¬ x < 0) (h2 : ¬ nI n ≤ x) (hn : n < 2 ^ 31) : ∃ j : Nat, j < n ∧ x = nI j := by
  rcases pk_ix x hn with h | h | h
  · exact absurd h h1
  · exact absurd h h2
  · exact h
def c_by (x : Int32) : Nat := if ¬ x < 0 ∧ ¬ nI 255 < x then 1 else 0
def c_po (x : Int32) : Nat := if ¬ x < 0 ∧ ¬ nI 32 ≤ x then 1 else 0
theorem c_by_y {x : Int32} (h1 : ¬ x < 0) (h2 : ¬ nI 255 < x) : nI 1 = nI (c_by x) := by unfold c_by; rw [if_pos ⟨h1, h2⟩]
theorem c_by_a {x : Int32} (h1 : x < 0) : nI 0 = nI (c_by x) := by unfold c_by; rw [if_neg (fun q => q.1 h1)]
theorem c_by_b {x : Int32} (h2 : nI 255 < x) : nI 0 = nI (c_by x) := by unfold c_by; rw [if_neg (fun q => q.2 h2)]
theorem c_po_y {x : Int32} (h1 : ¬ x < 0) (h2 : ¬ nI 32 ≤ x) : nI 1 = nI (c_po x) := by unfold c_po; rw [if_pos ⟨h1, h2⟩]
theorem c_po_a {x : Int32} (h1 : x < 0) : nI 0 = nI (c_po x) := by unfold c_po; rw [if_neg (fun q => q.1 h1)]
theorem c_po_b {x : Int32} (h2 : nI 32 ≤ x) : nI 0 = nI (c_po x) := by unfold c_po; rw [if_neg (fun q => q.2 h2)]
theorem c_by_n {k : Nat} (h : k < 256) : c_by (nI k) = 1 := if_pos ⟨nI_pos (by omega), fun q => absurd ((nI_ltI (by decide) (by omega)).mp q) (by omega)⟩
theorem c_po_n {k : Nat} (h : k < 32) : c_po (nI k) = 1 := if_pos ⟨nI_pos (by omega), fun q => absurd ((nI_leI (by decide) (by omega)).mp q) (by omega)⟩
theorem c_by_le (x : Int32) : c_by x < 2 := by unfold c_by; split <;> omega
theorem c_po_le (x : Int32) : c_po x < 2 := by unfold c_po; split <;> omega
def c_at (f : Nat → Nat) (n : Nat) (x : Int32) : Int32 := if ¬ x < 0 ∧ ¬ nI n ≤ x then nI (f x.toNatClampNeg) else -1
theorem c_at_y {f : Nat → Nat} {n k : Nat} (h : k < n) (hn : n < 2 ^ 31) : nI (f k) = c_at f n (nI k) := by
  unfold c_at
  rw [if_pos ⟨nI_pos (by omega), fun q => absurd ((nI_leI hn (by omega)).mp q) (by omega)⟩, nI_clamp (by omega)]
theorem c_at_a {f : Nat → Nat} {n : Nat} {x : Int32} (h1 : x < 0) : (-1) = c_at f n x := by unfold c_at; rw [if_neg (fun q => q.1 h1)]
theorem c_at_b {f : Nat → Nat} {n : Nat} {x : Int32} (h2 : nI n ≤ x) : (-1) = c_at f n x := by unfold c_at; rw [if_neg (fun q => q.2 h2)]
theorem g_sd_lt (g : Nat → Nat) : g_sd g < 2 := by unfold g_sd; split <;> omega
theorem c_du_lt (l0 : Nat) (ck lt : Int32) : c_du l0 ck lt < 2 := by unfold c_du; split <;> omega
theorem d_re_y {t : Int32} (h : d_n t = 65) : d_re t = 1 := if_pos h
theorem d_re_n {t : Int32} (h : ¬ d_n t = 65) : d_re t = 0 := if_neg h
theorem d_te_y {t : Int32} (h : d_n t = 65) : d_te t = d_wk t 65 := if_pos h
theorem d_te_n {t : Int32} (h : ¬ d_n t = 65) : d_te t = nI 0 := if_neg h
theorem g_key_bt {key ctr : Nat → Nat} (hk : g_bt 16 key) (hc : g_bt 16 ctr) (b : Nat) : g_bt 16 (g_key key ctr b) := g_blk_bt (g_sch_bt hk) (g_cts_bt hc b) 10
end
section
set_option maxHeartbeats 4000000 in
set_option maxRecDepth 100000 in
theorem q_Ci_timesX (l : Launch) (b : Nat) (hb : b < 256) : xMf l y_Ci_timesX c_Ci_timesX 1 .int ({ frames := 0, cells := 0, slots := 0, locals := 0 }) [.int (nI b)] (nI (g_x2 b)) := by
  refine xMf.by r_Ci (by decide +kernel) (Nat.le_of_ble_eq_true rfl) rfl ?_
  intro p e s m args below meth c ls Q E hl hret
  have hl : lv_has ls 1 [(0, .int (nI b))] := hl
  refine lv_iload_n E.1 E.2.1 d_Ci_timesX_0 rfl (lv_at hl 0 rfl) ?_
  refine lv_sipush (v := nI 128) E.1 E.2.1 d_Ci_timesX_1 (by decide) ?_
  refine x_ge (tgt := 13) E d_Ci_timesX_4 (by decide) (by omega) (by omega) (fun hc => ?_) (fun hc => ?_)
  · refine lv_iload_n E.1 E.2.1 d_Ci_timesX_13 rfl (lv_at hl 0 rfl) ?_
    refine lv_iconst (v := nI 1) E.1 E.2.1 d_Ci_timesX_14 (by decide) ?_
    refine lv_ishl E.1 E.2.1 d_Ci_timesX_15 ?_
    refine x_top (v' := nI (2 * b)) ((b_shl 1 (by decide) (by omega)).trans (congrArg nI (by omega))) ?_
    refine lv_sipush (v := nI 283) E.1 E.2.1 d_Ci_timesX_16 (by decide) ?_
    refine x_ixor E d_Ci_timesX_19 ?_
    exact hret _ _ _ (by unfold g_x2; first | rw [if_pos (by omega)] | rw [if_neg (by omega)]) d_Ci_timesX_20
  · refine lv_iload_n E.1 E.2.1 d_Ci_timesX_7 rfl (lv_at hl 0 rfl) ?_
    refine lv_iconst (v := nI 1) E.1 E.2.1 d_Ci_timesX_8 (by decide) ?_
    refine lv_ishl E.1 E.2.1 d_Ci_timesX_9 ?_
    refine x_top (v' := nI (2 * b)) ((b_shl 1 (by decide) (by omega)).trans (congrArg nI (by omega))) ?_
    refine lv_goto (tgt := 20) E.1 E.2.1 d_Ci_timesX_10 (by decide) ?_
    exact hret _ _ _ (by unfold g_x2; first | rw [if_pos (by omega)] | rw [if_neg (by omega)]) d_Ci_timesX_20
set_option maxHeartbeats 4000000 in
set_option maxRecDepth 100000 in
theorem q_Ci_addRoundKey (G : xG) (l : Launch) (h0 q1 q2 q3 : Nat) (r : Nat) (K g : Nat → Nat) (hr : r ≤ 10) : xMv G l y_Ci_addRoundKey c_Ci_addRoundKey 3 ({ frames := 0, cells := 0, slots := 0, locals := 0 }) [.ref h0, .int (nI r)] [] [(h0, .inr (0, [.ref q1, .ref q2, .ref q3])), (q1, x_N G 176 K), (q2, x_N G 16 g)] Unit (fun _ => True) (fun u => [(h0, .inr (0, [.ref q1, .ref q2, .ref q3])), (q1, x_N G 176 K), (q2, x_N G 16 (fun j => g j ^^^ K (r * 16 + j)))]) 0 0 := by
  refine xMv.by r_Ci (by decide +kernel) (Nat.le_of_ble_eq_true rfl) rfl ?_
  intro p e s m args below meth c A ls Q E hin B hro hl hret
  have hl : lv_has ls 3 [(0, .ref h0), (1, .int (nI r))] := hl
  refine lv_iconst (v := nI 0) E.1 E.2.1 d_Ci_addRoundKey_0 (by decide) ?_
  refine lv_istore_n (lv' := [(2, .int (nI 0)), (0, .ref h0), (1, .int (nI r))]) E.1 E.2.1 d_Ci_addRoundKey_1 rfl hl (by decide) rfl (fun ls hl => ?_)
  have hL2 : ∀ (kf : Nat) (i : Nat), 16 - i < kf → (i ≤ 16) → ∀ (H : Heap) (locs : List Loc) (ls : Array Slot), xB G A s H locs ([(h0, .inr (0, [.ref q1, .ref q2, .ref q3])), (q1, x_N G 176 K), (q2, x_N G 16 (mx i (fun j => g j ^^^ K (r * 16 + j)) g))]) → lv_has ls 3 [(2, .int (nI i)), (0, .ref h0), (1, .int (nI r))] → W p l e ({ frames := 0, cells := 0, slots := 0, locals := 0 }) s m args below meth c H locs 0 0 Q (F0 m 2 ls []) := by
    intro k2
    induction k2 with
    | zero =>
      intro i hk
      exact absurd hk (Nat.not_lt_zero _)
    | succ k2 ih2 =>
      intro i hk2 hi H locs ls B hl
      refine lv_iload_n E.1 E.2.1 d_Ci_addRoundKey_2 rfl (lv_at hl 0 rfl) ?_
      refine lv_bipush (v := nI 16) E.1 E.2.1 d_Ci_addRoundKey_3 (by decide) ?_
      refine x_ge (tgt := 34) E d_Ci_addRoundKey_5 (by decide) (by omega) (by omega) (fun c1 => ?_) (fun c1 => ?_)
      · obtain rfl : i = 16 := by omega
        have B := B.fn 2 rfl (nA (fun j => g j ^^^ K (r * 16 + j))) (mx_e)
        have B : xB G A s _ _ ([(h0, .inr (0, [.ref q1, .ref q2, .ref q3])), (q1, x_N G 176 K), (q2, x_N G 16 (fun j => g j ^^^ K (r * 16 + j)))]) := B
        exact hret () _ _ _ _ B trivial d_Ci_addRoundKey_34
      · refine lv_aload_n E.1 E.2.1 d_Ci_addRoundKey_8 rfl (lv_at hl 1 rfl) ?_
        refine x_get E B 0 rfl k_Ci 1 (by decide) wd_100 rfl d_Ci_addRoundKey_9 ?_
        refine lv_iload_n E.1 E.2.1 d_Ci_addRoundKey_12 rfl (lv_at hl 0 rfl) ?_
        refine lv_dup2_11 E.1 E.2.1 d_Ci_addRoundKey_13 rfl rfl ?_
        refine x_aldN E B 2 rfl (i := i) (by omega) (by decide) d_Ci_addRoundKey_14 ?_
        refine x_top (show nI ((mx i (fun j => g j ^^^ K (r * 16 + j)) g) i) = nI (g i) from congrArg nI (by exact mx_ge (Nat.le_refl i))) ?_
        refine lv_aload_n E.1 E.2.1 d_Ci_addRoundKey_15 rfl (lv_at hl 1 rfl) ?_
        refine x_get E B 0 rfl k_Ci 0 (by decide) wd_99 rfl d_Ci_addRoundKey_16 ?_
        refine lv_iload_n E.1 E.2.1 d_Ci_addRoundKey_19 rfl (lv_at hl 2 rfl) ?_
        refine lv_bipush (v := nI 16) E.1 E.2.1 d_Ci_addRoundKey_20 (by decide) ?_
        refine x_imul E d_Ci_addRoundKey_22 ?_
        refine lv_iload_n E.1 E.2.1 d_Ci_addRoundKey_23 rfl (lv_at hl 0 rfl) ?_
        refine x_iadd E d_Ci_addRoundKey_24 ?_
        refine x_aldN E B 1 rfl (i := (r * 16) + i) (by omega) (by decide) d_Ci_addRoundKey_25 ?_
        refine x_ixor E d_Ci_addRoundKey_26 ?_
        refine x_astN E B 2 rfl (i := i) (v := (g i) ^^^ (K ((r * 16) + i))) (by omega) (by decide) d_Ci_addRoundKey_27 (fun H locs B => ?_)
        have B : xB G A s _ _ ([(h0, .inr (0, [.ref q1, .ref q2, .ref q3])), (q1, x_N G 176 K), (q2, x_N G 16 (va_up (mx i (fun j => g j ^^^ K (r * 16 + j)) g) i ((g i) ^^^ (K ((r * 16) + i)))))]) := B
        have B := B.fn 2 rfl (nA (mx (i + 1) (fun j => g j ^^^ K (r * 16 + j)) g)) (mx_fn rfl)
        have B : xB G A s _ _ ([(h0, .inr (0, [.ref q1, .ref q2, .ref q3])), (q1, x_N G 176 K), (q2, x_N G 16 (mx (i + 1) (fun j => g j ^^^ K (r * 16 + j)) g))]) := B
        refine x_inc E 1 (lv' := [(2, .int (nI (i + 1))), (0, .ref h0), (1, .int (nI r))]) d_Ci_addRoundKey_28 hl (k := 0) rfl rfl (by decide) rfl (fun ls hl => ?_)
        refine lv_goto (tgt := 2) E.1 E.2.1 d_Ci_addRoundKey_31 (by decide) ?_
        exact ih2  (i + 1) (by omega) (by omega) _ _ _ B (lv_sub hl [0, 1, 2] rfl)
  have B := B.fn 2 rfl (nA (mx 0 (fun j => g j ^^^ K (r * 16 + j)) g)) (mx_z _ _)
  have B : xB G A s _ _ ([(h0, .inr (0, [.ref q1, .ref q2, .ref q3])), (q1, x_N G 176 K), (q2, x_N G 16 (mx 0 (fun j => g j ^^^ K (r * 16 + j)) g))]) := B
  exact hL2 (17) 0 (by omega) (by omega) _ _ _ B (lv_sub hl [0, 1, 2] rfl)
set_option maxHeartbeats 4000000 in
set_option maxRecDepth 100000 in
theorem q_Ci_substituteAndMove (G : xG) (l : Launch) (h0 q1 q2 q3 : Nat) (g v : Nat → Nat) (hg : g_bt 16 g) : xMv G l y_Ci_substituteAndMove c_Ci_substituteAndMove 2 ({ frames := 1, cells := 0, slots := 0, locals := 60 }) [.ref h0] [] [(h0, .inr (0, [.ref q1, .ref q2, .ref q3])), (q2, x_N G 16 g), (q3, x_N G 16 v)] Unit (fun _ => True) (fun u => [(h0, .inr (0, [.ref q1, .ref q2, .ref q3])), (q2, x_N G 16 (g_sm g)), (q3, x_N G 16 (g_sm g))]) 0 0 := by
  refine xMv.by r_Ci (by decide +kernel) (Nat.le_of_ble_eq_true rfl) rfl ?_
  intro p e s m args below meth c A ls Q E hin B hro hl hret
  have hl : lv_has ls 2 [(0, .ref h0)] := hl
  refine lv_iconst (v := nI 0) E.1 E.2.1 d_Ci_substituteAndMove_0 (by decide) ?_
  refine lv_istore_n (lv' := [(1, .int (nI 0)), (0, .ref h0)]) E.1 E.2.1 d_Ci_substituteAndMove_1 rfl hl (by decide) rfl (fun ls hl => ?_)
  have hL2 : ∀ (kf : Nat) (i : Nat), 16 - i < kf → (i ≤ 16) → ∀ (H : Heap) (locs : List Loc) (ls : Array Slot), xB G A s H locs ([(h0, .inr (0, [.ref q1, .ref q2, .ref q3])), (q2, x_N G 16 g), (q3, x_N G 16 (mx i (g_sm g) v))]) → lv_has ls 2 [(1, .int (nI i)), (0, .ref h0)] → W p l e ({ frames := 1, cells := 0, slots := 0, locals := 60 }) s m args below meth c H locs 0 0 Q (F0 m 2 ls []) := by
    intro k2
    induction k2 with
    | zero =>
      intro i hk
      exact absurd hk (Nat.not_lt_zero _)
    | succ k2 ih2 =>
      intro i hk2 hi H locs ls B hl
      refine lv_iload_n E.1 E.2.1 d_Ci_substituteAndMove_2 rfl (lv_at hl 0 rfl) ?_
      refine lv_bipush (v := nI 16) E.1 E.2.1 d_Ci_substituteAndMove_3 (by decide) ?_
      refine x_ge (tgt := 39) E d_Ci_substituteAndMove_5 (by decide) (by omega) (by omega) (fun c1 => ?_) (fun c1 => ?_)
      · obtain rfl : i = 16 := by omega
        have B := B.fn 2 rfl (nA (g_sm g)) (mx_e)
        have B : xB G A s _ _ ([(h0, .inr (0, [.ref q1, .ref q2, .ref q3])), (q2, x_N G 16 g), (q3, x_N G 16 (g_sm g))]) := B
        refine lv_aload_n E.1 E.2.1 d_Ci_substituteAndMove_39 rfl (lv_at hl 1 rfl) ?_
        refine x_get E B 0 rfl k_Ci 2 (by decide) wd_101 rfl d_Ci_substituteAndMove_40 ?_
        refine lv_iconst (v := nI 0) E.1 E.2.1 d_Ci_substituteAndMove_43 (by decide) ?_
        refine lv_aload_n E.1 E.2.1 d_Ci_substituteAndMove_44 rfl (lv_at hl 1 rfl) ?_
        refine x_get E B 0 rfl k_Ci 1 (by decide) wd_100 rfl d_Ci_substituteAndMove_45 ?_
        refine lv_iconst (v := nI 0) E.1 E.2.1 d_Ci_substituteAndMove_48 (by decide) ?_
        refine lv_bipush (v := nI 16) E.1 E.2.1 d_Ci_substituteAndMove_49 (by decide) ?_
        refine x_cpy E B wd_297 wd_217 wd_216 wd_41 2 1 (sp := 0) (dp := 0) (n := 16) rfl rfl (by omega) (by omega) (by decide) (by decide) hl.1 (Nat.le_of_ble_eq_true rfl) (Nat.le_of_ble_eq_true rfl) d_Ci_substituteAndMove_51 (fun H locs B => ?_)
        rw [x_cpN] at B
        have B : xB G A s _ _ ([(h0, .inr (0, [.ref q1, .ref q2, .ref q3])), (q2, x_N G 16 (va_cpy (g_sm g) g 0 0 16)), (q3, x_N G 16 (g_sm g))]) := B
        have B := B.fn 1 rfl (nA (g_sm g)) (cp_0)
        have B : xB G A s _ _ ([(h0, .inr (0, [.ref q1, .ref q2, .ref q3])), (q2, x_N G 16 (g_sm g)), (q3, x_N G 16 (g_sm g))]) := B
        exact hret () _ _ _ _ B trivial d_Ci_substituteAndMove_54
      · refine lv_aload_n E.1 E.2.1 d_Ci_substituteAndMove_8 rfl (lv_at hl 1 rfl) ?_
        refine x_get E B 0 rfl k_Ci 2 (by decide) wd_101 rfl d_Ci_substituteAndMove_9 ?_
        refine lv_iload_n E.1 E.2.1 d_Ci_substituteAndMove_12 rfl (lv_at hl 0 rfl) ?_
        refine x_gets E B B.2.2.2.2.1.2.2.1 wd_302 d_Ci_substituteAndMove_13 ?_
        refine lv_aload_n E.1 E.2.1 d_Ci_substituteAndMove_16 rfl (lv_at hl 1 rfl) ?_
        refine x_get E B 0 rfl k_Ci 1 (by decide) wd_100 rfl d_Ci_substituteAndMove_17 ?_
        refine lv_iload_n E.1 E.2.1 d_Ci_substituteAndMove_20 rfl (lv_at hl 0 rfl) ?_
        refine lv_iconst (v := nI 4) E.1 E.2.1 d_Ci_substituteAndMove_21 (by decide) ?_
        refine lv_iload_n E.1 E.2.1 d_Ci_substituteAndMove_22 rfl (lv_at hl 0 rfl) ?_
        refine lv_iconst (v := nI 4) E.1 E.2.1 d_Ci_substituteAndMove_23 (by decide) ?_
        refine x_irem E d_Ci_substituteAndMove_24 (by omega) (by decide) (by decide) ?_
        refine x_imul E d_Ci_substituteAndMove_25 ?_
        refine x_iadd E d_Ci_substituteAndMove_26 ?_
        refine lv_bipush (v := nI 16) E.1 E.2.1 d_Ci_substituteAndMove_27 (by decide) ?_
        refine x_irem E d_Ci_substituteAndMove_29 (by omega) (by decide) (by decide) ?_
        refine x_aldN E B 1 rfl (i := (i + (4 * (i % 4))) % 16) (by omega) (by decide) d_Ci_substituteAndMove_30 ?_
        refine x_tld E B B.2.2.2.2.1.2.2.2 (i := g ((i + (4 * (i % 4))) % 16)) (hg _ (by omega)) (by decide) d_Ci_substituteAndMove_31 ?_
        refine x_astN E B 2 rfl (i := i) (v := k_S (g ((i + (4 * (i % 4))) % 16))) (by omega) (by decide) d_Ci_substituteAndMove_32 (fun H locs B => ?_)
        have B : xB G A s _ _ ([(h0, .inr (0, [.ref q1, .ref q2, .ref q3])), (q2, x_N G 16 g), (q3, x_N G 16 (va_up (mx i (g_sm g) v) i (k_S (g ((i + (4 * (i % 4))) % 16)))))]) := B
        have B := B.fn 2 rfl (nA (mx (i + 1) (g_sm g) v)) (mx_fn rfl)
        have B : xB G A s _ _ ([(h0, .inr (0, [.ref q1, .ref q2, .ref q3])), (q2, x_N G 16 g), (q3, x_N G 16 (mx (i + 1) (g_sm g) v))]) := B
        refine x_inc E 1 (lv' := [(1, .int (nI (i + 1))), (0, .ref h0)]) d_Ci_substituteAndMove_33 hl (k := 0) rfl rfl (by decide) rfl (fun ls hl => ?_)
        refine lv_goto (tgt := 2) E.1 E.2.1 d_Ci_substituteAndMove_36 (by decide) ?_
        exact ih2  (i + 1) (by omega) (by omega) _ _ _ B (lv_sub hl [0, 1] rfl)
  have B := B.fn 2 rfl (nA (mx 0 (g_sm g) v)) (mx_z _ _)
  have B : xB G A s _ _ ([(h0, .inr (0, [.ref q1, .ref q2, .ref q3])), (q2, x_N G 16 g), (q3, x_N G 16 (mx 0 (g_sm g) v))]) := B
  exact hL2 (17) 0 (by omega) (by omega) _ _ _ B (lv_sub hl [0, 1] rfl)
set_option maxHeartbeats 4000000 in
set_option maxRecDepth 100000 in
theorem q_Ci_mixColumns (G : xG) (l : Launch) (h0 q1 q2 q3 : Nat) (g : Nat → Nat) (hg : g_bt 16 g) : xMv G l y_Ci_mixColumns c_Ci_mixColumns 7 ({ frames := 1, cells := 0, slots := 0, locals := 20 }) [.ref h0] [] [(h0, .inr (0, [.ref q1, .ref q2, .ref q3])), (q2, x_N G 16 g)] Unit (fun _ => True) (fun u => [(h0, .inr (0, [.ref q1, .ref q2, .ref q3])), (q2, x_N G 16 (g_mc g))]) 0 0 := by
  refine xMv.by r_Ci (by decide +kernel) (Nat.le_of_ble_eq_true rfl) rfl ?_
  intro p e s m args below meth c A ls Q E hin B hro hl hret
  have hl : lv_has ls 7 [(0, .ref h0)] := hl
  refine lv_iconst (v := nI 0) E.1 E.2.1 d_Ci_mixColumns_0 (by decide) ?_
  refine lv_istore_n (lv' := [(1, .int (nI 0)), (0, .ref h0)]) E.1 E.2.1 d_Ci_mixColumns_1 rfl hl (by decide) rfl (fun ls hl => ?_)
  have hL2 : ∀ (kf : Nat) (z : Nat), 4 - z < kf → (z ≤ 4) → ∀ (H : Heap) (locs : List Loc) (ls : Array Slot), xB G A s H locs ([(h0, .inr (0, [.ref q1, .ref q2, .ref q3])), (q2, x_N G 16 (mx (4 * z) (g_mc g) g))]) → lv_has ls 7 [(1, .int (nI (4 * z))), (0, .ref h0)] → W p l e ({ frames := 1, cells := 0, slots := 0, locals := 20 }) s m args below meth c H locs 0 0 Q (F0 m 2 ls []) := by
    intro k2
    induction k2 with
    | zero =>
      intro z hk
      exact absurd hk (Nat.not_lt_zero _)
    | succ k2 ih2 =>
      intro z hk2 hz H locs ls B hl
      refine lv_iload_n E.1 E.2.1 d_Ci_mixColumns_2 rfl (lv_at hl 0 rfl) ?_
      refine lv_bipush (v := nI 16) E.1 E.2.1 d_Ci_mixColumns_3 (by decide) ?_
      refine x_ge (tgt := 141) E d_Ci_mixColumns_5 (by decide) (by omega) (by omega) (fun c1 => ?_) (fun c1 => ?_)
      · obtain rfl : z = 4 := by omega
        have B := B.fn 1 rfl (nA (g_mc g)) (mx_e)
        have B : xB G A s _ _ ([(h0, .inr (0, [.ref q1, .ref q2, .ref q3])), (q2, x_N G 16 (g_mc g))]) := B
        exact hret () _ _ _ _ B trivial d_Ci_mixColumns_141
      · refine lv_aload_n E.1 E.2.1 d_Ci_mixColumns_8 rfl (lv_at hl 1 rfl) ?_
        refine x_get E B 0 rfl k_Ci 1 (by decide) wd_100 rfl d_Ci_mixColumns_9 ?_
        refine lv_iload_n E.1 E.2.1 d_Ci_mixColumns_12 rfl (lv_at hl 0 rfl) ?_
        refine x_aldN E B 1 rfl (i := 4 * z) (by omega) (by decide) d_Ci_mixColumns_13 ?_
        refine x_top (show nI ((mx (4 * z) (g_mc g) g) (4 * z)) = nI (g (4 * z)) from congrArg nI (by exact mx_ge (by omega))) ?_
        refine lv_istore_n (lv' := [(2, .int (nI (g (4 * z)))), (1, .int (nI (4 * z))), (0, .ref h0)]) E.1 E.2.1 d_Ci_mixColumns_14 rfl hl (by decide) rfl (fun ls hl => ?_)
        refine lv_aload_n E.1 E.2.1 d_Ci_mixColumns_15 rfl (lv_at hl 2 rfl) ?_
        refine x_get E B 0 rfl k_Ci 1 (by decide) wd_100 rfl d_Ci_mixColumns_16 ?_
        refine lv_iload_n E.1 E.2.1 d_Ci_mixColumns_19 rfl (lv_at hl 1 rfl) ?_
        refine lv_iconst (v := nI 1) E.1 E.2.1 d_Ci_mixColumns_20 (by decide) ?_
        refine x_iadd E d_Ci_mixColumns_21 ?_
        refine x_aldN E B 1 rfl (i := (4 * z) + 1) (by omega) (by decide) d_Ci_mixColumns_22 ?_
        refine x_top (show nI ((mx (4 * z) (g_mc g) g) ((4 * z) + 1)) = nI (g (4 * z + 1)) from congrArg nI (by exact mx_ge (by omega))) ?_
        refine lv_istore_n (lv' := [(3, .int (nI (g (4 * z + 1)))), (2, .int (nI (g (4 * z)))), (1, .int (nI (4 * z))), (0, .ref h0)]) E.1 E.2.1 d_Ci_mixColumns_23 rfl hl (by decide) rfl (fun ls hl => ?_)
        refine lv_aload_n E.1 E.2.1 d_Ci_mixColumns_24 rfl (lv_at hl 3 rfl) ?_
        refine x_get E B 0 rfl k_Ci 1 (by decide) wd_100 rfl d_Ci_mixColumns_25 ?_
        refine lv_iload_n E.1 E.2.1 d_Ci_mixColumns_28 rfl (lv_at hl 2 rfl) ?_
        refine lv_iconst (v := nI 2) E.1 E.2.1 d_Ci_mixColumns_29 (by decide) ?_
        refine x_iadd E d_Ci_mixColumns_30 ?_
        refine x_aldN E B 1 rfl (i := (4 * z) + 2) (by omega) (by decide) d_Ci_mixColumns_31 ?_
        refine x_top (show nI ((mx (4 * z) (g_mc g) g) ((4 * z) + 2)) = nI (g (4 * z + 2)) from congrArg nI (by exact mx_ge (by omega))) ?_
        refine lv_istore (lv' := [(4, .int (nI (g (4 * z + 2)))), (3, .int (nI (g (4 * z + 1)))), (2, .int (nI (g (4 * z)))), (1, .int (nI (4 * z))), (0, .ref h0)]) E.1 E.2.1 d_Ci_mixColumns_32 hl (by decide) rfl (fun ls hl => ?_)
        refine lv_aload_n E.1 E.2.1 d_Ci_mixColumns_34 rfl (lv_at hl 4 rfl) ?_
        refine x_get E B 0 rfl k_Ci 1 (by decide) wd_100 rfl d_Ci_mixColumns_35 ?_
        refine lv_iload_n E.1 E.2.1 d_Ci_mixColumns_38 rfl (lv_at hl 3 rfl) ?_
        refine lv_iconst (v := nI 3) E.1 E.2.1 d_Ci_mixColumns_39 (by decide) ?_
        refine x_iadd E d_Ci_mixColumns_40 ?_
        refine x_aldN E B 1 rfl (i := (4 * z) + 3) (by omega) (by decide) d_Ci_mixColumns_41 ?_
        refine x_top (show nI ((mx (4 * z) (g_mc g) g) ((4 * z) + 3)) = nI (g (4 * z + 3)) from congrArg nI (by exact mx_ge (by omega))) ?_
        refine lv_istore (lv' := [(5, .int (nI (g (4 * z + 3)))), (4, .int (nI (g (4 * z + 2)))), (3, .int (nI (g (4 * z + 1)))), (2, .int (nI (g (4 * z)))), (1, .int (nI (4 * z))), (0, .ref h0)]) E.1 E.2.1 d_Ci_mixColumns_42 hl (by decide) rfl (fun ls hl => ?_)
        refine lv_iload_n E.1 E.2.1 d_Ci_mixColumns_44 rfl (lv_at hl 3 rfl) ?_
        refine lv_iload_n E.1 E.2.1 d_Ci_mixColumns_45 rfl (lv_at hl 2 rfl) ?_
        refine x_ixor E d_Ci_mixColumns_46 ?_
        refine lv_iload E.1 E.2.1 d_Ci_mixColumns_47 (lv_at hl 1 rfl) ?_
        refine x_ixor E d_Ci_mixColumns_49 ?_
        refine lv_iload E.1 E.2.1 d_Ci_mixColumns_50 (lv_at hl 0 rfl) ?_
        refine x_ixor E d_Ci_mixColumns_52 ?_
        refine lv_istore (lv' := [(6, .int (nI ((((g (4 * z)) ^^^ (g (4 * z + 1))) ^^^ (g (4 * z + 2))) ^^^ (g (4 * z + 3))))), (5, .int (nI (g (4 * z + 3)))), (4, .int (nI (g (4 * z + 2)))), (3, .int (nI (g (4 * z + 1)))), (2, .int (nI (g (4 * z)))), (1, .int (nI (4 * z))), (0, .ref h0)]) E.1 E.2.1 d_Ci_mixColumns_53 hl (by decide) rfl (fun ls hl => ?_)
        refine lv_aload_n E.1 E.2.1 d_Ci_mixColumns_55 rfl (lv_at hl 6 rfl) ?_
        refine x_get E B 0 rfl k_Ci 1 (by decide) wd_100 rfl d_Ci_mixColumns_56 ?_
        refine lv_iload_n E.1 E.2.1 d_Ci_mixColumns_59 rfl (lv_at hl 5 rfl) ?_
        refine lv_iload_n E.1 E.2.1 d_Ci_mixColumns_60 rfl (lv_at hl 4 rfl) ?_
        refine lv_iload E.1 E.2.1 d_Ci_mixColumns_61 (lv_at hl 0 rfl) ?_
        refine x_ixor E d_Ci_mixColumns_63 ?_
        refine lv_iload_n E.1 E.2.1 d_Ci_mixColumns_64 rfl (lv_at hl 4 rfl) ?_
        refine lv_iload_n E.1 E.2.1 d_Ci_mixColumns_65 rfl (lv_at hl 3 rfl) ?_
        refine x_ixor E d_Ci_mixColumns_66 ?_
        refine x_cf (x_rS (rest := [.int (nI ((g (4 * z)) ^^^ ((((g (4 * z)) ^^^ (g (4 * z + 1))) ^^^ (g (4 * z + 2))) ^^^ (g (4 * z + 3))))), .int (nI (4 * z)), .ref q2]) E (q_Ci_timesX l ((g (4 * z)) ^^^ (g (4 * z + 1))) (g_xl (hg _ (by omega)) (hg _ (by omega)))) x_pf (gg_S wd_304 wd_305 wd_38 wd_306) p_Ci_timesX rfl rfl ⟨Nat.le_of_ble_eq_true rfl, Nat.le_of_ble_eq_true rfl⟩ rfl hl.1 rfl (Nat.le_of_ble_eq_true rfl) d_Ci_mixColumns_67 ⟨Nat.le_of_ble_eq_true rfl, Nat.le_of_ble_eq_true rfl⟩) ?_
        refine x_ixor E d_Ci_mixColumns_70 ?_
        refine x_astN E B 1 rfl (i := 4 * z) (v := ((g (4 * z)) ^^^ ((((g (4 * z)) ^^^ (g (4 * z + 1))) ^^^ (g (4 * z + 2))) ^^^ (g (4 * z + 3)))) ^^^ (g_x2 ((g (4 * z)) ^^^ (g (4 * z + 1))))) (by omega) (by decide) d_Ci_mixColumns_71 (fun H locs B => ?_)
        have B : xB G A s _ _ ([(h0, .inr (0, [.ref q1, .ref q2, .ref q3])), (q2, x_N G 16 (va_up (mx (4 * z) (g_mc g) g) (4 * z) (((g (4 * z)) ^^^ ((((g (4 * z)) ^^^ (g (4 * z + 1))) ^^^ (g (4 * z + 2))) ^^^ (g (4 * z + 3)))) ^^^ (g_x2 ((g (4 * z)) ^^^ (g (4 * z + 1)))))))]) := B
        have B := B.fn 1 rfl (nA (mx (4 * z + 1) (g_mc g) g)) (mx_fn (g_mc0 g z).symm)
        have B : xB G A s _ _ ([(h0, .inr (0, [.ref q1, .ref q2, .ref q3])), (q2, x_N G 16 (mx (4 * z + 1) (g_mc g) g))]) := B
        refine lv_aload_n E.1 E.2.1 d_Ci_mixColumns_72 rfl (lv_at hl 6 rfl) ?_
        refine x_get E B 0 rfl k_Ci 1 (by decide) wd_100 rfl d_Ci_mixColumns_73 ?_
        refine lv_iload_n E.1 E.2.1 d_Ci_mixColumns_76 rfl (lv_at hl 5 rfl) ?_
        refine lv_iconst (v := nI 1) E.1 E.2.1 d_Ci_mixColumns_77 (by decide) ?_
        refine x_iadd E d_Ci_mixColumns_78 ?_
        refine lv_iload_n E.1 E.2.1 d_Ci_mixColumns_79 rfl (lv_at hl 3 rfl) ?_
        refine lv_iload E.1 E.2.1 d_Ci_mixColumns_80 (lv_at hl 0 rfl) ?_
        refine x_ixor E d_Ci_mixColumns_82 ?_
        refine lv_iload_n E.1 E.2.1 d_Ci_mixColumns_83 rfl (lv_at hl 3 rfl) ?_
        refine lv_iload E.1 E.2.1 d_Ci_mixColumns_84 (lv_at hl 2 rfl) ?_
        refine x_ixor E d_Ci_mixColumns_86 ?_
        refine x_cf (x_rS (rest := [.int (nI ((g (4 * z + 1)) ^^^ ((((g (4 * z)) ^^^ (g (4 * z + 1))) ^^^ (g (4 * z + 2))) ^^^ (g (4 * z + 3))))), .int (nI ((4 * z) + 1)), .ref q2]) E (q_Ci_timesX l ((g (4 * z + 1)) ^^^ (g (4 * z + 2))) (g_xl (hg _ (by omega)) (hg _ (by omega)))) x_pf (gg_S wd_304 wd_305 wd_38 wd_306) p_Ci_timesX rfl rfl ⟨Nat.le_of_ble_eq_true rfl, Nat.le_of_ble_eq_true rfl⟩ rfl hl.1 rfl (Nat.le_of_ble_eq_true rfl) d_Ci_mixColumns_87 ⟨Nat.le_of_ble_eq_true rfl, Nat.le_of_ble_eq_true rfl⟩) ?_
        refine x_ixor E d_Ci_mixColumns_90 ?_
        refine x_astN E B 1 rfl (i := (4 * z) + 1) (v := ((g (4 * z + 1)) ^^^ ((((g (4 * z)) ^^^ (g (4 * z + 1))) ^^^ (g (4 * z + 2))) ^^^ (g (4 * z + 3)))) ^^^ (g_x2 ((g (4 * z + 1)) ^^^ (g (4 * z + 2))))) (by omega) (by decide) d_Ci_mixColumns_91 (fun H locs B => ?_)
        have B : xB G A s _ _ ([(h0, .inr (0, [.ref q1, .ref q2, .ref q3])), (q2, x_N G 16 (va_up (mx (4 * z + 1) (g_mc g) g) ((4 * z) + 1) (((g (4 * z + 1)) ^^^ ((((g (4 * z)) ^^^ (g (4 * z + 1))) ^^^ (g (4 * z + 2))) ^^^ (g (4 * z + 3)))) ^^^ (g_x2 ((g (4 * z + 1)) ^^^ (g (4 * z + 2)))))))]) := B
        have B := B.fn 1 rfl (nA (mx (4 * z + 2) (g_mc g) g)) (mx_fn (g_mc1 g z).symm)
        have B : xB G A s _ _ ([(h0, .inr (0, [.ref q1, .ref q2, .ref q3])), (q2, x_N G 16 (mx (4 * z + 2) (g_mc g) g))]) := B
        refine lv_aload_n E.1 E.2.1 d_Ci_mixColumns_92 rfl (lv_at hl 6 rfl) ?_
        refine x_get E B 0 rfl k_Ci 1 (by decide) wd_100 rfl d_Ci_mixColumns_93 ?_
        refine lv_iload_n E.1 E.2.1 d_Ci_mixColumns_96 rfl (lv_at hl 5 rfl) ?_
        refine lv_iconst (v := nI 2) E.1 E.2.1 d_Ci_mixColumns_97 (by decide) ?_
        refine x_iadd E d_Ci_mixColumns_98 ?_
        refine lv_iload E.1 E.2.1 d_Ci_mixColumns_99 (lv_at hl 2 rfl) ?_
        refine lv_iload E.1 E.2.1 d_Ci_mixColumns_101 (lv_at hl 0 rfl) ?_
        refine x_ixor E d_Ci_mixColumns_103 ?_
        refine lv_iload E.1 E.2.1 d_Ci_mixColumns_104 (lv_at hl 2 rfl) ?_
        refine lv_iload E.1 E.2.1 d_Ci_mixColumns_106 (lv_at hl 1 rfl) ?_
        refine x_ixor E d_Ci_mixColumns_108 ?_
        refine x_cf (x_rS (rest := [.int (nI ((g (4 * z + 2)) ^^^ ((((g (4 * z)) ^^^ (g (4 * z + 1))) ^^^ (g (4 * z + 2))) ^^^ (g (4 * z + 3))))), .int (nI ((4 * z) + 2)), .ref q2]) E (q_Ci_timesX l ((g (4 * z + 2)) ^^^ (g (4 * z + 3))) (g_xl (hg _ (by omega)) (hg _ (by omega)))) x_pf (gg_S wd_304 wd_305 wd_38 wd_306) p_Ci_timesX rfl rfl ⟨Nat.le_of_ble_eq_true rfl, Nat.le_of_ble_eq_true rfl⟩ rfl hl.1 rfl (Nat.le_of_ble_eq_true rfl) d_Ci_mixColumns_109 ⟨Nat.le_of_ble_eq_true rfl, Nat.le_of_ble_eq_true rfl⟩) ?_
        refine x_ixor E d_Ci_mixColumns_112 ?_
        refine x_astN E B 1 rfl (i := (4 * z) + 2) (v := ((g (4 * z + 2)) ^^^ ((((g (4 * z)) ^^^ (g (4 * z + 1))) ^^^ (g (4 * z + 2))) ^^^ (g (4 * z + 3)))) ^^^ (g_x2 ((g (4 * z + 2)) ^^^ (g (4 * z + 3))))) (by omega) (by decide) d_Ci_mixColumns_113 (fun H locs B => ?_)
        have B : xB G A s _ _ ([(h0, .inr (0, [.ref q1, .ref q2, .ref q3])), (q2, x_N G 16 (va_up (mx (4 * z + 2) (g_mc g) g) ((4 * z) + 2) (((g (4 * z + 2)) ^^^ ((((g (4 * z)) ^^^ (g (4 * z + 1))) ^^^ (g (4 * z + 2))) ^^^ (g (4 * z + 3)))) ^^^ (g_x2 ((g (4 * z + 2)) ^^^ (g (4 * z + 3)))))))]) := B
        have B := B.fn 1 rfl (nA (mx (4 * z + 3) (g_mc g) g)) (mx_fn (g_mc2 g z).symm)
        have B : xB G A s _ _ ([(h0, .inr (0, [.ref q1, .ref q2, .ref q3])), (q2, x_N G 16 (mx (4 * z + 3) (g_mc g) g))]) := B
        refine lv_aload_n E.1 E.2.1 d_Ci_mixColumns_114 rfl (lv_at hl 6 rfl) ?_
        refine x_get E B 0 rfl k_Ci 1 (by decide) wd_100 rfl d_Ci_mixColumns_115 ?_
        refine lv_iload_n E.1 E.2.1 d_Ci_mixColumns_118 rfl (lv_at hl 5 rfl) ?_
        refine lv_iconst (v := nI 3) E.1 E.2.1 d_Ci_mixColumns_119 (by decide) ?_
        refine x_iadd E d_Ci_mixColumns_120 ?_
        refine lv_iload E.1 E.2.1 d_Ci_mixColumns_121 (lv_at hl 1 rfl) ?_
        refine lv_iload E.1 E.2.1 d_Ci_mixColumns_123 (lv_at hl 0 rfl) ?_
        refine x_ixor E d_Ci_mixColumns_125 ?_
        refine lv_iload E.1 E.2.1 d_Ci_mixColumns_126 (lv_at hl 1 rfl) ?_
        refine lv_iload_n E.1 E.2.1 d_Ci_mixColumns_128 rfl (lv_at hl 4 rfl) ?_
        refine x_ixor E d_Ci_mixColumns_129 ?_
        refine x_cf (x_rS (rest := [.int (nI ((g (4 * z + 3)) ^^^ ((((g (4 * z)) ^^^ (g (4 * z + 1))) ^^^ (g (4 * z + 2))) ^^^ (g (4 * z + 3))))), .int (nI ((4 * z) + 3)), .ref q2]) E (q_Ci_timesX l ((g (4 * z + 3)) ^^^ (g (4 * z))) (g_xl (hg _ (by omega)) (hg _ (by omega)))) x_pf (gg_S wd_304 wd_305 wd_38 wd_306) p_Ci_timesX rfl rfl ⟨Nat.le_of_ble_eq_true rfl, Nat.le_of_ble_eq_true rfl⟩ rfl hl.1 rfl (Nat.le_of_ble_eq_true rfl) d_Ci_mixColumns_130 ⟨Nat.le_of_ble_eq_true rfl, Nat.le_of_ble_eq_true rfl⟩) ?_
        refine x_ixor E d_Ci_mixColumns_133 ?_
        refine x_astN E B 1 rfl (i := (4 * z) + 3) (v := ((g (4 * z + 3)) ^^^ ((((g (4 * z)) ^^^ (g (4 * z + 1))) ^^^ (g (4 * z + 2))) ^^^ (g (4 * z + 3)))) ^^^ (g_x2 ((g (4 * z + 3)) ^^^ (g (4 * z))))) (by omega) (by decide) d_Ci_mixColumns_134 (fun H locs B => ?_)
        have B : xB G A s _ _ ([(h0, .inr (0, [.ref q1, .ref q2, .ref q3])), (q2, x_N G 16 (va_up (mx (4 * z + 3) (g_mc g) g) ((4 * z) + 3) (((g (4 * z + 3)) ^^^ ((((g (4 * z)) ^^^ (g (4 * z + 1))) ^^^ (g (4 * z + 2))) ^^^ (g (4 * z + 3)))) ^^^ (g_x2 ((g (4 * z + 3)) ^^^ (g (4 * z)))))))]) := B
        have B := B.fn 1 rfl (nA (mx (4 * z + 4) (g_mc g) g)) (mx_fn (g_mc3 g z).symm)
        have B : xB G A s _ _ ([(h0, .inr (0, [.ref q1, .ref q2, .ref q3])), (q2, x_N G 16 (mx (4 * z + 4) (g_mc g) g))]) := B
        refine x_inc E 4 (lv' := [(1, .int (nI ((4 * z) + 4))), (6, .int (nI ((((g (4 * z)) ^^^ (g (4 * z + 1))) ^^^ (g (4 * z + 2))) ^^^ (g (4 * z + 3))))), (5, .int (nI (g (4 * z + 3)))), (4, .int (nI (g (4 * z + 2)))), (3, .int (nI (g (4 * z + 1)))), (2, .int (nI (g (4 * z)))), (0, .ref h0)]) d_Ci_mixColumns_135 hl (k := 5) rfl rfl (by decide) rfl (fun ls hl => ?_)
        refine lv_goto (tgt := 2) E.1 E.2.1 d_Ci_mixColumns_138 (by decide) ?_
        exact ih2  (z + 1) (by omega) (by omega) _ _ _ B (lv_sub hl [0, 6] rfl)
  have B := B.fn 1 rfl (nA (mx (4 * 0) (g_mc g) g)) (mx_z _ _)
  have B : xB G A s _ _ ([(h0, .inr (0, [.ref q1, .ref q2, .ref q3])), (q2, x_N G 16 (mx (4 * 0) (g_mc g) g))]) := B
  exact hL2 (5) 0 (by omega) (by omega) _ _ _ B (lv_sub hl [0, 1] rfl)
set_option maxHeartbeats 4000000 in
set_option maxRecDepth 100000 in
theorem q_Ci_makeTurnedWord (G : xG) (l : Launch) (h0 q1 q2 q3 : Nat) (t : Nat) (key k0 : Nat → Nat) (ht : 1 ≤ t) (ht2 : t ≤ 10) (hk : g_bt 16 key) : xMv G l y_Ci_makeTurnedWord c_Ci_makeTurnedWord 5 ({ frames := 0, cells := 0, slots := 0, locals := 0 }) [.ref h0, .int (nI (16 * t)), .int (nI (g_pw (t - 1)))] [] [(h0, .inr (0, [.ref q1, .ref q2, .ref q3])), (q1, x_N G 176 (mx (16 * t) (g_sch key) k0))] Unit (fun _ => True) (fun u => [(h0, .inr (0, [.ref q1, .ref q2, .ref q3])), (q1, x_N G 176 (mx (16 * t + 4) (g_sch key) k0))]) 0 0 := by
  refine xMv.by r_Ci (by decide +kernel) (Nat.le_of_ble_eq_true rfl) rfl ?_
  intro p e s m args below meth c A ls Q E hin B hro hl hret
  have hl : lv_has ls 5 [(0, .ref h0), (1, .int (nI (16 * t))), (2, .int (nI (g_pw (t - 1))))] := hl
  refine lv_iconst (v := nI 0) E.1 E.2.1 d_Ci_makeTurnedWord_0 (by decide) ?_
  refine lv_istore_n (lv' := [(3, .int (nI 0)), (0, .ref h0), (1, .int (nI (16 * t))), (2, .int (nI (g_pw (t - 1))))]) E.1 E.2.1 d_Ci_makeTurnedWord_1 rfl hl (by decide) rfl (fun ls hl => ?_)
  have hL2 : ∀ (kf : Nat) (k : Nat), 4 - k < kf → (k ≤ 4) → ∀ (H : Heap) (locs : List Loc) (ls : Array Slot), xB G A s H locs ([(h0, .inr (0, [.ref q1, .ref q2, .ref q3])), (q1, x_N G 176 (mx (16 * t + k) (g_s1 (g_sch key) t) k0))]) → lv_has ls 5 [(3, .int (nI k)), (0, .ref h0), (1, .int (nI (16 * t))), (2, .int (nI (g_pw (t - 1))))] → W p l e ({ frames := 0, cells := 0, slots := 0, locals := 0 }) s m args below meth c H locs 0 0 Q (F0 m 2 ls []) := by
    intro k2
    induction k2 with
    | zero =>
      intro k hk
      exact absurd hk (Nat.not_lt_zero _)
    | succ k2 ih2 =>
      intro k hk2 hi H locs ls B hl
      refine lv_iload_n E.1 E.2.1 d_Ci_makeTurnedWord_2 rfl (lv_at hl 0 rfl) ?_
      refine lv_iconst (v := nI 4) E.1 E.2.1 d_Ci_makeTurnedWord_3 (by decide) ?_
      refine x_ge (tgt := 55) E d_Ci_makeTurnedWord_4 (by decide) (by omega) (by omega) (fun c1 => ?_) (fun c1 => ?_)
      · obtain rfl : k = 4 := by omega
        refine lv_aload_n E.1 E.2.1 d_Ci_makeTurnedWord_55 rfl (lv_at hl 1 rfl) ?_
        refine x_get E B 0 rfl k_Ci 0 (by decide) wd_99 rfl d_Ci_makeTurnedWord_56 ?_
        refine lv_iload_n E.1 E.2.1 d_Ci_makeTurnedWord_59 rfl (lv_at hl 2 rfl) ?_
        refine lv_dup2_11 E.1 E.2.1 d_Ci_makeTurnedWord_60 rfl rfl ?_
        refine x_aldN E B 1 rfl (i := 16 * t) (by omega) (by decide) d_Ci_makeTurnedWord_61 ?_
        refine x_top (show nI ((mx (16 * t + 4) (g_s1 (g_sch key) t) k0) (16 * t)) = nI (g_s1 (g_sch key) t (16 * t)) from congrArg nI (by exact mx_lt (by omega))) ?_
        refine lv_iload_n E.1 E.2.1 d_Ci_makeTurnedWord_62 rfl (lv_at hl 3 rfl) ?_
        refine x_ixor E d_Ci_makeTurnedWord_63 ?_
        refine x_astN E B 1 rfl (i := 16 * t) (v := (g_s1 (g_sch key) t (16 * t)) ^^^ (g_pw (t - 1))) (by omega) (by decide) d_Ci_makeTurnedWord_64 (fun H locs B => ?_)
        have B : xB G A s _ _ ([(h0, .inr (0, [.ref q1, .ref q2, .ref q3])), (q1, x_N G 176 (va_up (mx (16 * t + 4) (g_s1 (g_sch key) t) k0) (16 * t) ((g_s1 (g_sch key) t (16 * t)) ^^^ (g_pw (t - 1)))))]) := B
        have B := B.fn 1 rfl (nA (mx (16 * t + 4) (g_sch key) k0)) (g_turnE (g_turn0 ht))
        have B : xB G A s _ _ ([(h0, .inr (0, [.ref q1, .ref q2, .ref q3])), (q1, x_N G 176 (mx (16 * t + 4) (g_sch key) k0))]) := B
        exact hret () _ _ _ _ B trivial d_Ci_makeTurnedWord_65
      · refine x_gets E B B.2.2.2.2.1.2.2.1 wd_302 d_Ci_makeTurnedWord_7 ?_
        refine lv_aload_n E.1 E.2.1 d_Ci_makeTurnedWord_10 rfl (lv_at hl 1 rfl) ?_
        refine x_get E B 0 rfl k_Ci 0 (by decide) wd_99 rfl d_Ci_makeTurnedWord_11 ?_
        refine lv_iload_n E.1 E.2.1 d_Ci_makeTurnedWord_14 rfl (lv_at hl 2 rfl) ?_
        refine lv_iconst (v := nI 4) E.1 E.2.1 d_Ci_makeTurnedWord_15 (by decide) ?_
        refine x_isub E d_Ci_makeTurnedWord_16 (by omega) ?_
        refine lv_iload_n E.1 E.2.1 d_Ci_makeTurnedWord_17 rfl (lv_at hl 0 rfl) ?_
        refine lv_iconst (v := nI 1) E.1 E.2.1 d_Ci_makeTurnedWord_18 (by decide) ?_
        refine x_iadd E d_Ci_makeTurnedWord_19 ?_
        refine lv_iconst (v := nI 4) E.1 E.2.1 d_Ci_makeTurnedWord_20 (by decide) ?_
        refine x_irem E d_Ci_makeTurnedWord_21 (by omega) (by decide) (by decide) ?_
        refine x_iadd E d_Ci_makeTurnedWord_22 ?_
        refine x_aldN E B 1 rfl (i := ((16 * t) - 4) + ((k + 1) % 4)) (by omega) (by decide) d_Ci_makeTurnedWord_23 ?_
        refine x_top (show nI ((mx (16 * t + k) (g_s1 (g_sch key) t) k0) (((16 * t) - 4) + ((k + 1) % 4))) = nI (g_sch key (16 * t - 4 + (k + 1) % 4)) from congrArg nI (by rw [mx_lt (by omega), g_s1_ne (by omega)])) ?_
        refine x_tld E B B.2.2.2.2.1.2.2.2 (i := g_sch key (16 * t - 4 + (k + 1) % 4)) (g_sch_bt hk _) (by decide) d_Ci_makeTurnedWord_24 ?_
        refine lv_istore (lv' := [(4, .int (nI (k_S (g_sch key (16 * t - 4 + (k + 1) % 4))))), (3, .int (nI k)), (0, .ref h0), (1, .int (nI (16 * t))), (2, .int (nI (g_pw (t - 1))))]) E.1 E.2.1 d_Ci_makeTurnedWord_25 hl (by decide) rfl (fun ls hl => ?_)
        refine lv_aload_n E.1 E.2.1 d_Ci_makeTurnedWord_27 rfl (lv_at hl 2 rfl) ?_
        refine x_get E B 0 rfl k_Ci 0 (by decide) wd_99 rfl d_Ci_makeTurnedWord_28 ?_
        refine lv_iload_n E.1 E.2.1 d_Ci_makeTurnedWord_31 rfl (lv_at hl 3 rfl) ?_
        refine lv_iload_n E.1 E.2.1 d_Ci_makeTurnedWord_32 rfl (lv_at hl 1 rfl) ?_
        refine x_iadd E d_Ci_makeTurnedWord_33 ?_
        refine lv_aload_n E.1 E.2.1 d_Ci_makeTurnedWord_34 rfl (lv_at hl 2 rfl) ?_
        refine x_get E B 0 rfl k_Ci 0 (by decide) wd_99 rfl d_Ci_makeTurnedWord_35 ?_
        refine lv_iload_n E.1 E.2.1 d_Ci_makeTurnedWord_38 rfl (lv_at hl 3 rfl) ?_
        refine lv_bipush (v := nI 16) E.1 E.2.1 d_Ci_makeTurnedWord_39 (by decide) ?_
        refine x_isub E d_Ci_makeTurnedWord_41 (by omega) ?_
        refine lv_iload_n E.1 E.2.1 d_Ci_makeTurnedWord_42 rfl (lv_at hl 1 rfl) ?_
        refine x_iadd E d_Ci_makeTurnedWord_43 ?_
        refine x_aldN E B 1 rfl (i := ((16 * t) - 16) + k) (by omega) (by decide) d_Ci_makeTurnedWord_44 ?_
        refine x_top (show nI ((mx (16 * t + k) (g_s1 (g_sch key) t) k0) (((16 * t) - 16) + k)) = nI (g_sch key (16 * t - 16 + k)) from congrArg nI (by rw [mx_lt (by omega), g_s1_ne (by omega)])) ?_
        refine lv_iload E.1 E.2.1 d_Ci_makeTurnedWord_45 (lv_at hl 0 rfl) ?_
        refine x_ixor E d_Ci_makeTurnedWord_47 ?_
        refine x_astN E B 1 rfl (i := (16 * t) + k) (v := (g_sch key (16 * t - 16 + k)) ^^^ (k_S (g_sch key (16 * t - 4 + (k + 1) % 4)))) (by omega) (by decide) d_Ci_makeTurnedWord_48 (fun H locs B => ?_)
        have B : xB G A s _ _ ([(h0, .inr (0, [.ref q1, .ref q2, .ref q3])), (q1, x_N G 176 (va_up (mx (16 * t + k) (g_s1 (g_sch key) t) k0) ((16 * t) + k) ((g_sch key (16 * t - 16 + k)) ^^^ (k_S (g_sch key (16 * t - 4 + (k + 1) % 4))))))]) := B
        have B := B.fn 1 rfl (nA (mx (16 * t + (k + 1)) (g_s1 (g_sch key) t) k0)) (mx_fn (g_turn ht (by omega)))
        have B : xB G A s _ _ ([(h0, .inr (0, [.ref q1, .ref q2, .ref q3])), (q1, x_N G 176 (mx (16 * t + (k + 1)) (g_s1 (g_sch key) t) k0))]) := B
        refine x_inc E 1 (lv' := [(3, .int (nI (k + 1))), (4, .int (nI (k_S (g_sch key (16 * t - 4 + (k + 1) % 4))))), (0, .ref h0), (1, .int (nI (16 * t))), (2, .int (nI (g_pw (t - 1))))]) d_Ci_makeTurnedWord_49 hl (k := 1) rfl rfl (by decide) rfl (fun ls hl => ?_)
        refine lv_goto (tgt := 2) E.1 E.2.1 d_Ci_makeTurnedWord_52 (by decide) ?_
        exact ih2  (k + 1) (by omega) (by omega) _ _ _ B (lv_sub hl [0, 2, 3, 4] rfl)
  have B := B.fn 1 rfl (nA (mx (16 * t + 0) (g_s1 (g_sch key) t) k0)) (g_turnS)
  have B : xB G A s _ _ ([(h0, .inr (0, [.ref q1, .ref q2, .ref q3])), (q1, x_N G 176 (mx (16 * t + 0) (g_s1 (g_sch key) t) k0))]) := B
  exact hL2 (5) 0 (by omega) (by omega) _ _ _ B (lv_sub hl [0, 1, 2, 3] rfl)
set_option maxHeartbeats 4000000 in
set_option maxRecDepth 100000 in
theorem q_Ci_takeKey (G : xG) (l : Launch) (h0 q1 q2 q3 : Nat) (kq : Nat) (key k0 : Nat → Nat) (hk : g_bt 16 key) : xMv G l y_Ci_takeKey c_Ci_takeKey 5 ({ frames := 1, cells := 0, slots := 0, locals := 60 }) [.ref h0, .ref kq] [(kq, 16, nA key)] [(h0, .inr (0, [.ref q1, .ref q2, .ref q3])), (q1, x_N G 176 k0)] Unit (fun _ => True) (fun u => [(h0, .inr (0, [.ref q1, .ref q2, .ref q3])), (q1, x_N G 176 (g_sch key))]) 0 0 := by
  refine xMv.by r_Ci (by decide +kernel) (Nat.le_of_ble_eq_true rfl) rfl ?_
  intro p e s m args below meth c A ls Q E hin B hro hl hret
  have hl : lv_has ls 5 [(0, .ref h0), (1, .ref kq)] := hl
  have hR0 : x_R A s s.heap kq 16 (nA key) := hro _ (List.mem_of_getElem? (i := 0) rfl)
  refine lv_aload_n E.1 E.2.1 d_Ci_takeKey_0 rfl (lv_at hl 1 rfl) ?_
  refine lv_iconst (v := nI 0) E.1 E.2.1 d_Ci_takeKey_1 (by decide) ?_
  refine lv_aload_n E.1 E.2.1 d_Ci_takeKey_2 rfl (lv_at hl 0 rfl) ?_
  refine x_get E B 0 rfl k_Ci 0 (by decide) wd_99 rfl d_Ci_takeKey_3 ?_
  refine lv_iconst (v := nI 0) E.1 E.2.1 d_Ci_takeKey_6 (by decide) ?_
  refine lv_bipush (v := nI 16) E.1 E.2.1 d_Ci_takeKey_7 (by decide) ?_
  refine x_cpt E B wd_297 wd_217 wd_216 wd_41 hR0 1 (sp := 0) (dp := 0) (n := 16) rfl (by omega) (by omega) (by decide) (by decide) hl.1 (Nat.le_of_ble_eq_true rfl) (Nat.le_of_ble_eq_true rfl) d_Ci_takeKey_9 (fun H locs B => ?_)
  rw [x_cpN] at B
  have B : xB G A s _ _ ([(h0, .inr (0, [.ref q1, .ref q2, .ref q3])), (q1, x_N G 176 (va_cpy key k0 0 0 16))]) := B
  have B := B.fn 1 rfl (nA (mx (16 * 0 + 16) (g_sch key) k0)) (g_cpk (fun j h => g_sch_0 h))
  have B : xB G A s _ _ ([(h0, .inr (0, [.ref q1, .ref q2, .ref q3])), (q1, x_N G 176 (mx (16 * 0 + 16) (g_sch key) k0))]) := B
  refine lv_iconst (v := nI 1) E.1 E.2.1 d_Ci_takeKey_12 (by decide) ?_
  refine lv_istore_n (lv' := [(2, .int (nI 1)), (0, .ref h0), (1, .ref kq)]) E.1 E.2.1 d_Ci_takeKey_13 rfl hl (by decide) rfl (fun ls hl => ?_)
  refine lv_bipush (v := nI 16) E.1 E.2.1 d_Ci_takeKey_14 (by decide) ?_
  refine lv_istore_n (lv' := [(3, .int (nI 16)), (2, .int (nI 1)), (0, .ref h0), (1, .ref kq)]) E.1 E.2.1 d_Ci_takeKey_16 rfl hl (by decide) rfl (fun ls hl => ?_)
  have hL17 : ∀ (kf : Nat) (t : Nat), 10 - t < kf → (t ≤ 10) → ∀ (H : Heap) (locs : List Loc) (ls : Array Slot), xB G A s H locs ([(h0, .inr (0, [.ref q1, .ref q2, .ref q3])), (q1, x_N G 176 (mx (16 * t + 16) (g_sch key) k0))]) → lv_has ls 5 [(3, .int (nI (16 * t + 16))), (2, .int (nI (g_pw t))), (0, .ref h0), (1, .ref kq)] → W p l e ({ frames := 1, cells := 0, slots := 0, locals := 60 }) s m args below meth c H locs 0 0 Q (F0 m 17 ls []) := by
    intro k17
    induction k17 with
    | zero =>
      intro t hk
      exact absurd hk (Nat.not_lt_zero _)
    | succ k17 ih17 =>
      intro t hk17 ht H locs ls B hl
      refine lv_iload_n E.1 E.2.1 d_Ci_takeKey_17 rfl (lv_at hl 0 rfl) ?_
      refine lv_aload_n E.1 E.2.1 d_Ci_takeKey_18 rfl (lv_at hl 2 rfl) ?_
      refine x_get E B 0 rfl k_Ci 0 (by decide) wd_99 rfl d_Ci_takeKey_19 ?_
      refine x_alen E B 1 rfl d_Ci_takeKey_22 ?_
      refine x_ge (tgt := 90) E d_Ci_takeKey_23 (by decide) (by omega) (by omega) (fun c1 => ?_) (fun c1 => ?_)
      · obtain rfl : t = 10 := by omega
        have B := B.fn 1 rfl (nA (g_sch key)) (mx_e)
        have B : xB G A s _ _ ([(h0, .inr (0, [.ref q1, .ref q2, .ref q3])), (q1, x_N G 176 (g_sch key))]) := B
        exact hret () _ _ _ _ B trivial d_Ci_takeKey_90
      · refine lv_aload_n E.1 E.2.1 d_Ci_takeKey_26 rfl (lv_at hl 2 rfl) ?_
        refine lv_iload_n E.1 E.2.1 d_Ci_takeKey_27 rfl (lv_at hl 0 rfl) ?_
        refine lv_iload_n E.1 E.2.1 d_Ci_takeKey_28 rfl (lv_at hl 1 rfl) ?_
        refine x_cv (ws' := (fun u => [(h0, .inr (0, [.ref q1, .ref q2, .ref q3])), (q1, x_N G 176 (mx (16 * (t + 1) + 4) (g_sch key) k0))])) (wr := []) B (x_rV (rest := []) E B (q_Ci_makeTurnedWord G l h0 q1 q2 q3 (t + 1) key k0 (by omega) (by omega) (hk) _) (x_pre B [0, 1] rfl (by decide) x_ro0) 0 rfl k_Ci (gg_V wd_298 wd_300 wd_9 wd_38 wd_301) ⟨rfl, p_Ci_makeTurnedWord⟩ rfl rfl ⟨Nat.le_of_ble_eq_true rfl, Nat.le_of_ble_eq_true rfl⟩ rfl hl.1 rfl (Nat.le_of_ble_eq_true rfl) d_Ci_takeKey_29 ⟨Nat.le_of_ble_eq_true rfl, Nat.le_of_ble_eq_true rfl⟩) [0, 1] [] [0, 1] rfl rfl (by decide) (by decide) (by decide) (fun _ => rfl) (fun u29 H locs hw29 B => ?_)
        have B : xB G A s _ _ ([(h0, .inr (0, [.ref q1, .ref q2, .ref q3])), (q1, x_N G 176 (mx (16 * (t + 1) + 4) (g_sch key) k0))]) := B
        refine lv_iload_n E.1 E.2.1 d_Ci_takeKey_32 rfl (lv_at hl 0 rfl) ?_
        refine lv_iconst (v := nI 4) E.1 E.2.1 d_Ci_takeKey_33 (by decide) ?_
        refine x_iadd E d_Ci_takeKey_34 ?_
        refine lv_istore (lv' := [(4, .int (nI ((16 * t + 16) + 4))), (3, .int (nI (16 * t + 16))), (2, .int (nI (g_pw t))), (0, .ref h0), (1, .ref kq)]) E.1 E.2.1 d_Ci_takeKey_35 hl (by decide) rfl (fun ls hl => ?_)
        have hL37 : ∀ (kf : Nat) (i : Nat), 16 * t + 32 - i < kf → (16 * t + 20 ≤ i) → (i ≤ 16 * t + 16 + 16) → ∀ (H : Heap) (locs : List Loc) (ls : Array Slot), xB G A s H locs ([(h0, .inr (0, [.ref q1, .ref q2, .ref q3])), (q1, x_N G 176 (mx i (g_sch key) k0))]) → lv_has ls 5 [(4, .int (nI i)), (3, .int (nI (16 * t + 16))), (2, .int (nI (g_pw t))), (0, .ref h0), (1, .ref kq)] → W p l e ({ frames := 1, cells := 0, slots := 0, locals := 60 }) s m args below meth c H locs 0 0 Q (F0 m 37 ls []) := by
          intro k37
          induction k37 with
          | zero =>
            intro i hk
            exact absurd hk (Nat.not_lt_zero _)
          | succ k37 ih37 =>
            intro i hk37 hi hi2 H locs ls B hl
            refine lv_iload E.1 E.2.1 d_Ci_takeKey_37 (lv_at hl 0 rfl) ?_
            refine lv_iload_n E.1 E.2.1 d_Ci_takeKey_39 rfl (lv_at hl 1 rfl) ?_
            refine lv_bipush (v := nI 16) E.1 E.2.1 d_Ci_takeKey_40 (by decide) ?_
            refine x_iadd E d_Ci_takeKey_42 ?_
            refine x_ge (tgt := 79) E d_Ci_takeKey_43 (by decide) (by omega) (by omega) (fun c2 => ?_) (fun c2 => ?_)
            · obtain rfl : i = 16 * t + 16 + 16 := by omega
              refine lv_iload_n E.1 E.2.1 d_Ci_takeKey_79 rfl (lv_at hl 2 rfl) ?_
              refine x_cf (x_rS (rest := []) E (q_Ci_timesX l (g_pw t) (g_pw_lt _)) x_pf (gg_S wd_304 wd_305 wd_38 wd_306) p_Ci_timesX rfl rfl ⟨Nat.le_of_ble_eq_true rfl, Nat.le_of_ble_eq_true rfl⟩ rfl hl.1 rfl (Nat.le_of_ble_eq_true rfl) d_Ci_takeKey_80 ⟨Nat.le_of_ble_eq_true rfl, Nat.le_of_ble_eq_true rfl⟩) ?_
              refine lv_istore_n (lv' := [(2, .int (nI (g_x2 (g_pw t)))), (4, .int (nI (16 * t + 16 + 16))), (3, .int (nI (16 * t + 16))), (0, .ref h0), (1, .ref kq)]) E.1 E.2.1 d_Ci_takeKey_83 rfl hl (by decide) rfl (fun ls hl => ?_)
              refine x_inc E 16 (lv' := [(3, .int (nI ((16 * t + 16) + 16))), (2, .int (nI (g_x2 (g_pw t)))), (4, .int (nI (16 * t + 16 + 16))), (0, .ref h0), (1, .ref kq)]) d_Ci_takeKey_84 hl (k := 2) rfl rfl (by decide) rfl (fun ls hl => ?_)
              refine lv_goto (tgt := 17) E.1 E.2.1 d_Ci_takeKey_87 (by decide) ?_
              exact ih17  (t + 1) (by omega) (by omega) _ _ _ B (lv_sub hl [0, 1, 3, 4] rfl)
            · refine lv_aload_n E.1 E.2.1 d_Ci_takeKey_46 rfl (lv_at hl 3 rfl) ?_
              refine x_get E B 0 rfl k_Ci 0 (by decide) wd_99 rfl d_Ci_takeKey_47 ?_
              refine lv_iload E.1 E.2.1 d_Ci_takeKey_50 (lv_at hl 0 rfl) ?_
              refine lv_aload_n E.1 E.2.1 d_Ci_takeKey_52 rfl (lv_at hl 3 rfl) ?_
              refine x_get E B 0 rfl k_Ci 0 (by decide) wd_99 rfl d_Ci_takeKey_53 ?_
              refine lv_iload E.1 E.2.1 d_Ci_takeKey_56 (lv_at hl 0 rfl) ?_
              refine lv_bipush (v := nI 16) E.1 E.2.1 d_Ci_takeKey_58 (by decide) ?_
              refine x_isub E d_Ci_takeKey_60 (by omega) ?_
              refine x_aldN E B 1 rfl (i := i - 16) (by omega) (by decide) d_Ci_takeKey_61 ?_
              refine x_top (show nI ((mx i (g_sch key) k0) (i - 16)) = nI (g_sch key (i - 16)) from congrArg nI (by exact mx_lt (by omega))) ?_
              refine lv_aload_n E.1 E.2.1 d_Ci_takeKey_62 rfl (lv_at hl 3 rfl) ?_
              refine x_get E B 0 rfl k_Ci 0 (by decide) wd_99 rfl d_Ci_takeKey_63 ?_
              refine lv_iload E.1 E.2.1 d_Ci_takeKey_66 (lv_at hl 0 rfl) ?_
              refine lv_iconst (v := nI 4) E.1 E.2.1 d_Ci_takeKey_68 (by decide) ?_
              refine x_isub E d_Ci_takeKey_69 (by omega) ?_
              refine x_aldN E B 1 rfl (i := i - 4) (by omega) (by decide) d_Ci_takeKey_70 ?_
              refine x_top (show nI ((mx i (g_sch key) k0) (i - 4)) = nI (g_sch key (i - 4)) from congrArg nI (by exact mx_lt (by omega))) ?_
              refine x_ixor E d_Ci_takeKey_71 ?_
              refine x_astN E B 1 rfl (i := i) (v := (g_sch key (i - 16)) ^^^ (g_sch key (i - 4))) (by omega) (by decide) d_Ci_takeKey_72 (fun H locs B => ?_)
              have B : xB G A s _ _ ([(h0, .inr (0, [.ref q1, .ref q2, .ref q3])), (q1, x_N G 176 (va_up (mx i (g_sch key) k0) i ((g_sch key (i - 16)) ^^^ (g_sch key (i - 4)))))]) := B
              have B := B.fn 1 rfl (nA (mx (i + 1) (g_sch key) k0)) (mx_fn (g_sch_2 (by omega) (by omega)).symm)
              have B : xB G A s _ _ ([(h0, .inr (0, [.ref q1, .ref q2, .ref q3])), (q1, x_N G 176 (mx (i + 1) (g_sch key) k0))]) := B
              refine x_inc E 1 (lv' := [(4, .int (nI (i + 1))), (3, .int (nI (16 * t + 16))), (2, .int (nI (g_pw t))), (0, .ref h0), (1, .ref kq)]) d_Ci_takeKey_73 hl (k := 0) rfl rfl (by decide) rfl (fun ls hl => ?_)
              refine lv_goto (tgt := 37) E.1 E.2.1 d_Ci_takeKey_76 (by decide) ?_
              exact ih37  (i + 1) (by omega) (by omega) (by omega) _ _ _ B (lv_sub hl [0, 1, 2, 3, 4] rfl)
        exact hL37 (13) (16 * t + 16 + 4) (by omega) (by omega) (by omega) _ _ _ B (lv_sub hl [0, 1, 2, 3, 4] rfl)
  exact hL17 (11) 0 (by omega) (by omega) _ _ _ B (lv_sub hl [0, 1, 2, 3] rfl)
set_option maxHeartbeats 4000000 in
set_option maxRecDepth 100000 in
theorem q_Ci_encrypt (G : xG) (l : Launch) (h0 q1 q2 q3 : Nat) (bq iq ni at_ : Nat) (K g v gi ctr : Nat → Nat) (hK : ∀ j, K j < 256) (hc : g_bt 16 ctr) (ha : at_ + 16 ≤ ni) (hni : ni < 100000) : xMv G l y_Ci_encrypt c_Ci_encrypt 5 ({ frames := 2, cells := 0, slots := 0, locals := 81 }) [.ref h0, .ref bq, .ref iq, .int (nI at_)] [(bq, 16, nA ctr)] [(h0, .inr (0, [.ref q1, .ref q2, .ref q3])), (q1, x_N G 176 K), (q2, x_N G 16 g), (q3, x_N G 16 v), (iq, x_N G ni gi)] Unit (fun _ => True) (fun u => [(h0, .inr (0, [.ref q1, .ref q2, .ref q3])), (q1, x_N G 176 K), (q2, x_N G 16 (g_blk K ctr 10)), (q3, x_N G 16 (g_sm (g_blk K ctr 9))), (iq, x_N G ni (va_cpy (g_blk K ctr 10) gi 0 at_ 16))]) 0 0 := by
  refine xMv.by r_Ci (by decide +kernel) (Nat.le_of_ble_eq_true rfl) rfl ?_
  intro p e s m args below meth c A ls Q E hin B hro hl hret
  have hl : lv_has ls 5 [(0, .ref h0), (1, .ref bq), (2, .ref iq), (3, .int (nI at_))] := hl
  have hR0 : x_R A s s.heap bq 16 (nA ctr) := hro _ (List.mem_of_getElem? (i := 0) rfl)
  refine lv_aload_n E.1 E.2.1 d_Ci_encrypt_0 rfl (lv_at hl 1 rfl) ?_
  refine lv_iconst (v := nI 0) E.1 E.2.1 d_Ci_encrypt_1 (by decide) ?_
  refine lv_aload_n E.1 E.2.1 d_Ci_encrypt_2 rfl (lv_at hl 0 rfl) ?_
  refine x_get E B 0 rfl k_Ci 1 (by decide) wd_100 rfl d_Ci_encrypt_3 ?_
  refine lv_iconst (v := nI 0) E.1 E.2.1 d_Ci_encrypt_6 (by decide) ?_
  refine lv_bipush (v := nI 16) E.1 E.2.1 d_Ci_encrypt_7 (by decide) ?_
  refine x_cpt E B wd_297 wd_217 wd_216 wd_41 hR0 2 (sp := 0) (dp := 0) (n := 16) rfl (by omega) (by omega) (by decide) (by decide) hl.1 (Nat.le_of_ble_eq_true rfl) (Nat.le_of_ble_eq_true rfl) d_Ci_encrypt_9 (fun H locs B => ?_)
  rw [x_cpN] at B
  have B : xB G A s _ _ ([(h0, .inr (0, [.ref q1, .ref q2, .ref q3])), (q1, x_N G 176 K), (q2, x_N G 16 (va_cpy ctr g 0 0 16)), (q3, x_N G 16 v), (iq, x_N G ni gi)]) := B
  have B := B.fn 2 rfl (nA ctr) (cp_0)
  have B : xB G A s _ _ ([(h0, .inr (0, [.ref q1, .ref q2, .ref q3])), (q1, x_N G 176 K), (q2, x_N G 16 ctr), (q3, x_N G 16 v), (iq, x_N G ni gi)]) := B
  refine lv_aload_n E.1 E.2.1 d_Ci_encrypt_12 rfl (lv_at hl 0 rfl) ?_
  refine lv_iconst (v := nI 0) E.1 E.2.1 d_Ci_encrypt_13 (by decide) ?_
  refine x_cv (ws' := (fun u => [(h0, .inr (0, [.ref q1, .ref q2, .ref q3])), (q1, x_N G 176 K), (q2, x_N G 16 (fun j => ctr j ^^^ K (0 * 16 + j))), (q3, x_N G 16 v), (iq, x_N G ni gi)])) (wr := [(q3, x_N G 16 v), (iq, x_N G ni gi)]) B (x_rV (rest := []) E B (q_Ci_addRoundKey G l h0 q1 q2 q3 0 K ctr (by omega) _) (x_pre B [0, 1, 2] rfl (by decide) x_ro0) 0 rfl k_Ci (gg_V wd_311 wd_313 wd_10 wd_38 wd_314) ⟨rfl, p_Ci_addRoundKey⟩ rfl rfl ⟨Nat.le_of_ble_eq_true rfl, Nat.le_of_ble_eq_true rfl⟩ rfl hl.1 rfl (Nat.le_of_ble_eq_true rfl) d_Ci_encrypt_14 ⟨Nat.le_of_ble_eq_true rfl, Nat.le_of_ble_eq_true rfl⟩) [0, 1, 2] [3, 4] [2, 3, 4, 0, 1] rfl rfl (by decide) (by decide) (by decide) (fun _ => rfl) (fun u14 H locs hw14 B => ?_)
  have B : xB G A s _ _ ([(h0, .inr (0, [.ref q1, .ref q2, .ref q3])), (q1, x_N G 176 K), (q2, x_N G 16 (fun j => ctr j ^^^ K (0 * 16 + j))), (q3, x_N G 16 v), (iq, x_N G ni gi)]) := B
  refine lv_iconst (v := nI 1) E.1 E.2.1 d_Ci_encrypt_17 (by decide) ?_
  refine lv_istore (lv' := [(4, .int (nI 1)), (0, .ref h0), (1, .ref bq), (2, .ref iq), (3, .int (nI at_))]) E.1 E.2.1 d_Ci_encrypt_18 hl (by decide) rfl (fun ls hl => ?_)
  have hL20 : ∀ (kf : Nat) (r : Nat), 10 - r < kf → (r ≤ 10) → ∀ (H : Heap) (locs : List Loc) (ls : Array Slot), xB G A s H locs ([(h0, .inr (0, [.ref q1, .ref q2, .ref q3])), (q1, x_N G 176 K), (q2, x_N G 16 (g_blk K ctr r)), (q3, x_N G 16 (g_w v K ctr r)), (iq, x_N G ni gi)]) → lv_has ls 5 [(4, .int (nI (r + 1))), (0, .ref h0), (1, .ref bq), (2, .ref iq), (3, .int (nI at_))] → W p l e ({ frames := 2, cells := 0, slots := 0, locals := 81 }) s m args below meth c H locs 0 0 Q (F0 m 20 ls []) := by
    intro k20
    induction k20 with
    | zero =>
      intro r hk
      exact absurd hk (Nat.not_lt_zero _)
    | succ k20 ih20 =>
      intro r hk20 hr H locs ls B hl
      refine lv_iload E.1 E.2.1 d_Ci_encrypt_20 (lv_at hl 0 rfl) ?_
      refine lv_bipush (v := nI 10) E.1 E.2.1 d_Ci_encrypt_22 (by decide) ?_
      refine x_gt (tgt := 54) E d_Ci_encrypt_24 (by decide) (by omega) (by omega) (fun c1 => ?_) (fun c1 => ?_)
      · obtain rfl : r = 10 := by omega
        have B := B.fn 3 rfl (nA (g_sm (g_blk K ctr 9))) (fun _ _ => rfl)
        have B : xB G A s _ _ ([(h0, .inr (0, [.ref q1, .ref q2, .ref q3])), (q1, x_N G 176 K), (q2, x_N G 16 (g_blk K ctr 10)), (q3, x_N G 16 (g_sm (g_blk K ctr 9))), (iq, x_N G ni gi)]) := B
        refine lv_aload_n E.1 E.2.1 d_Ci_encrypt_54 rfl (lv_at hl 1 rfl) ?_
        refine x_get E B 0 rfl k_Ci 1 (by decide) wd_100 rfl d_Ci_encrypt_55 ?_
        refine lv_iconst (v := nI 0) E.1 E.2.1 d_Ci_encrypt_58 (by decide) ?_
        refine lv_aload_n E.1 E.2.1 d_Ci_encrypt_59 rfl (lv_at hl 3 rfl) ?_
        refine lv_iload_n E.1 E.2.1 d_Ci_encrypt_60 rfl (lv_at hl 4 rfl) ?_
        refine lv_bipush (v := nI 16) E.1 E.2.1 d_Ci_encrypt_61 (by decide) ?_
        refine x_cpy E B wd_297 wd_217 wd_216 wd_41 2 4 (sp := 0) (dp := at_) (n := 16) rfl rfl (by omega) (by omega) (by decide) (by omega) hl.1 (Nat.le_of_ble_eq_true rfl) (Nat.le_of_ble_eq_true rfl) d_Ci_encrypt_63 (fun H locs B => ?_)
        rw [x_cpN] at B
        have B : xB G A s _ _ ([(h0, .inr (0, [.ref q1, .ref q2, .ref q3])), (q1, x_N G 176 K), (q2, x_N G 16 (g_blk K ctr 10)), (q3, x_N G 16 (g_sm (g_blk K ctr 9))), (iq, x_N G ni (va_cpy (g_blk K ctr 10) gi 0 at_ 16))]) := B
        exact hret () _ _ _ _ B trivial d_Ci_encrypt_66
      · refine lv_aload_n E.1 E.2.1 d_Ci_encrypt_27 rfl (lv_at hl 1 rfl) ?_
        refine x_cv (ws' := (fun u => [(h0, .inr (0, [.ref q1, .ref q2, .ref q3])), (q1, x_N G 176 K), (q2, x_N G 16 (g_sm (g_blk K ctr r))), (q3, x_N G 16 (g_sm (g_blk K ctr r))), (iq, x_N G ni gi)])) (wr := [(q1, x_N G 176 K), (iq, x_N G ni gi)]) B (x_rV (rest := []) E B (q_Ci_substituteAndMove G l h0 q1 q2 q3 (g_blk K ctr r) (g_w v K ctr r) (g_blk_bt hK hc r) _) (x_pre B [0, 2, 3] rfl (by decide) x_ro0) 0 rfl k_Ci (gg_V wd_315 wd_317 wd_11 wd_38 wd_318) ⟨rfl, p_Ci_substituteAndMove⟩ rfl rfl ⟨Nat.le_of_ble_eq_true rfl, Nat.le_of_ble_eq_true rfl⟩ rfl hl.1 rfl (Nat.le_of_ble_eq_true rfl) d_Ci_encrypt_28 ⟨Nat.le_of_ble_eq_true rfl, Nat.le_of_ble_eq_true rfl⟩) [0, 2, 3] [1, 4] [2, 0, 3, 4, 1] rfl rfl (by decide) (by decide) (by decide) (fun _ => rfl) (fun u28 H locs hw28 B => ?_)
        have B : xB G A s _ _ ([(h0, .inr (0, [.ref q1, .ref q2, .ref q3])), (q1, x_N G 176 K), (q2, x_N G 16 (g_sm (g_blk K ctr r))), (q3, x_N G 16 (g_sm (g_blk K ctr r))), (iq, x_N G ni gi)]) := B
        refine lv_iload E.1 E.2.1 d_Ci_encrypt_31 (lv_at hl 0 rfl) ?_
        refine lv_bipush (v := nI 10) E.1 E.2.1 d_Ci_encrypt_33 (by decide) ?_
        refine x_ge (tgt := 42) E d_Ci_encrypt_35 (by decide) (by omega) (by omega) (fun hr9 => ?_) (fun hr9 => ?_)
        · refine lv_aload_n E.1 E.2.1 d_Ci_encrypt_42 rfl (lv_at hl 1 rfl) ?_
          refine lv_iload E.1 E.2.1 d_Ci_encrypt_43 (lv_at hl 0 rfl) ?_
          refine x_cv (ws' := (fun u => [(h0, .inr (0, [.ref q1, .ref q2, .ref q3])), (q1, x_N G 176 K), (q2, x_N G 16 (fun j => (g_sm (g_blk K ctr r)) j ^^^ K ((r + 1) * 16 + j))), (q3, x_N G 16 (g_sm (g_blk K ctr r))), (iq, x_N G ni gi)])) (wr := [(q3, x_N G 16 (g_sm (g_blk K ctr r))), (iq, x_N G ni gi)]) B (x_rV (rest := []) E B (q_Ci_addRoundKey G l h0 q1 q2 q3 (r + 1) K (g_sm (g_blk K ctr r)) (by omega) _) (x_pre B [0, 1, 2] rfl (by decide) x_ro0) 0 rfl k_Ci (gg_V wd_311 wd_313 wd_10 wd_38 wd_314) ⟨rfl, p_Ci_addRoundKey⟩ rfl rfl ⟨Nat.le_of_ble_eq_true rfl, Nat.le_of_ble_eq_true rfl⟩ rfl hl.1 rfl (Nat.le_of_ble_eq_true rfl) d_Ci_encrypt_45 ⟨Nat.le_of_ble_eq_true rfl, Nat.le_of_ble_eq_true rfl⟩) [0, 1, 2] [3, 4] [2, 3, 4, 0, 1] rfl rfl (by decide) (by decide) (by decide) (fun _ => rfl) (fun u45 H locs hw45 B => ?_)
          have B : xB G A s _ _ ([(h0, .inr (0, [.ref q1, .ref q2, .ref q3])), (q1, x_N G 176 K), (q2, x_N G 16 (fun j => (g_sm (g_blk K ctr r)) j ^^^ K ((r + 1) * 16 + j))), (q3, x_N G 16 (g_sm (g_blk K ctr r))), (iq, x_N G ni gi)]) := B
          refine x_inc E 1 (lv' := [(4, .int (nI ((r + 1) + 1))), (0, .ref h0), (1, .ref bq), (2, .ref iq), (3, .int (nI at_))]) d_Ci_encrypt_48 hl (k := 0) rfl rfl (by decide) rfl (fun ls hl => ?_)
          refine lv_goto (tgt := 20) E.1 E.2.1 d_Ci_encrypt_51 (by decide) ?_
          have B := B.fn 2 rfl (nA (g_blk K ctr (r + 1))) (by first | exact g_blkA (by omega) | exact g_blkB (by omega))
          have B : xB G A s _ _ ([(h0, .inr (0, [.ref q1, .ref q2, .ref q3])), (q1, x_N G 176 K), (q2, x_N G 16 (g_blk K ctr (r + 1))), (q3, x_N G 16 (g_sm (g_blk K ctr r))), (iq, x_N G ni gi)]) := B
          have B := B.fn 3 rfl (nA (g_w v K ctr (r + 1))) (fun _ _ => rfl)
          have B : xB G A s _ _ ([(h0, .inr (0, [.ref q1, .ref q2, .ref q3])), (q1, x_N G 176 K), (q2, x_N G 16 (g_blk K ctr (r + 1))), (q3, x_N G 16 (g_w v K ctr (r + 1))), (iq, x_N G ni gi)]) := B
          exact ih20  (r + 1) (by omega) (by omega) _ _ _ B (lv_sub hl [0, 1, 2, 3, 4] rfl)
        · refine lv_aload_n E.1 E.2.1 d_Ci_encrypt_38 rfl (lv_at hl 1 rfl) ?_
          refine x_cv (ws' := (fun u => [(h0, .inr (0, [.ref q1, .ref q2, .ref q3])), (q1, x_N G 176 K), (q2, x_N G 16 (g_mc (g_sm (g_blk K ctr r)))), (q3, x_N G 16 (g_sm (g_blk K ctr r))), (iq, x_N G ni gi)])) (wr := [(q1, x_N G 176 K), (q3, x_N G 16 (g_sm (g_blk K ctr r))), (iq, x_N G ni gi)]) B (x_rV (rest := []) E B (q_Ci_mixColumns G l h0 q1 q2 q3 (g_sm (g_blk K ctr r)) (g_sm_bt (g_blk_bt hK hc r)) _) (x_pre B [0, 2] rfl (by decide) x_ro0) 0 rfl k_Ci (gg_V wd_319 wd_321 wd_12 wd_38 wd_322) ⟨rfl, p_Ci_mixColumns⟩ rfl rfl ⟨Nat.le_of_ble_eq_true rfl, Nat.le_of_ble_eq_true rfl⟩ rfl hl.1 rfl (Nat.le_of_ble_eq_true rfl) d_Ci_encrypt_39 ⟨Nat.le_of_ble_eq_true rfl, Nat.le_of_ble_eq_true rfl⟩) [0, 2] [1, 3, 4] [3, 0, 4, 1, 2] rfl rfl (by decide) (by decide) (by decide) (fun _ => rfl) (fun u39 H locs hw39 B => ?_)
          have B : xB G A s _ _ ([(h0, .inr (0, [.ref q1, .ref q2, .ref q3])), (q1, x_N G 176 K), (q2, x_N G 16 (g_mc (g_sm (g_blk K ctr r)))), (q3, x_N G 16 (g_sm (g_blk K ctr r))), (iq, x_N G ni gi)]) := B
          refine lv_aload_n E.1 E.2.1 d_Ci_encrypt_42 rfl (lv_at hl 1 rfl) ?_
          refine lv_iload E.1 E.2.1 d_Ci_encrypt_43 (lv_at hl 0 rfl) ?_
          refine x_cv (ws' := (fun u => [(h0, .inr (0, [.ref q1, .ref q2, .ref q3])), (q1, x_N G 176 K), (q2, x_N G 16 (fun j => (g_mc (g_sm (g_blk K ctr r))) j ^^^ K ((r + 1) * 16 + j))), (q3, x_N G 16 (g_sm (g_blk K ctr r))), (iq, x_N G ni gi)])) (wr := [(q3, x_N G 16 (g_sm (g_blk K ctr r))), (iq, x_N G ni gi)]) B (x_rV (rest := []) E B (q_Ci_addRoundKey G l h0 q1 q2 q3 (r + 1) K (g_mc (g_sm (g_blk K ctr r))) (by omega) _) (x_pre B [0, 1, 2] rfl (by decide) x_ro0) 0 rfl k_Ci (gg_V wd_311 wd_313 wd_10 wd_38 wd_314) ⟨rfl, p_Ci_addRoundKey⟩ rfl rfl ⟨Nat.le_of_ble_eq_true rfl, Nat.le_of_ble_eq_true rfl⟩ rfl hl.1 rfl (Nat.le_of_ble_eq_true rfl) d_Ci_encrypt_45 ⟨Nat.le_of_ble_eq_true rfl, Nat.le_of_ble_eq_true rfl⟩) [0, 1, 2] [3, 4] [2, 3, 4, 0, 1] rfl rfl (by decide) (by decide) (by decide) (fun _ => rfl) (fun u45 H locs hw45 B => ?_)
          have B : xB G A s _ _ ([(h0, .inr (0, [.ref q1, .ref q2, .ref q3])), (q1, x_N G 176 K), (q2, x_N G 16 (fun j => (g_mc (g_sm (g_blk K ctr r))) j ^^^ K ((r + 1) * 16 + j))), (q3, x_N G 16 (g_sm (g_blk K ctr r))), (iq, x_N G ni gi)]) := B
          refine x_inc E 1 (lv' := [(4, .int (nI ((r + 1) + 1))), (0, .ref h0), (1, .ref bq), (2, .ref iq), (3, .int (nI at_))]) d_Ci_encrypt_48 hl (k := 0) rfl rfl (by decide) rfl (fun ls hl => ?_)
          refine lv_goto (tgt := 20) E.1 E.2.1 d_Ci_encrypt_51 (by decide) ?_
          have B := B.fn 2 rfl (nA (g_blk K ctr (r + 1))) (by first | exact g_blkA (by omega) | exact g_blkB (by omega))
          have B : xB G A s _ _ ([(h0, .inr (0, [.ref q1, .ref q2, .ref q3])), (q1, x_N G 176 K), (q2, x_N G 16 (g_blk K ctr (r + 1))), (q3, x_N G 16 (g_sm (g_blk K ctr r))), (iq, x_N G ni gi)]) := B
          have B := B.fn 3 rfl (nA (g_w v K ctr (r + 1))) (fun _ _ => rfl)
          have B : xB G A s _ _ ([(h0, .inr (0, [.ref q1, .ref q2, .ref q3])), (q1, x_N G 176 K), (q2, x_N G 16 (g_blk K ctr (r + 1))), (q3, x_N G 16 (g_w v K ctr (r + 1))), (iq, x_N G ni gi)]) := B
          exact ih20  (r + 1) (by omega) (by omega) _ _ _ B (lv_sub hl [0, 1, 2, 3, 4] rfl)
  have B := B.fn 2 rfl (nA (g_blk K ctr 0)) (fun _ _ => rfl)
  have B : xB G A s _ _ ([(h0, .inr (0, [.ref q1, .ref q2, .ref q3])), (q1, x_N G 176 K), (q2, x_N G 16 (g_blk K ctr 0)), (q3, x_N G 16 v), (iq, x_N G ni gi)]) := B
  have B := B.fn 3 rfl (nA (g_w v K ctr 0)) (fun _ _ => rfl)
  have B : xB G A s _ _ ([(h0, .inr (0, [.ref q1, .ref q2, .ref q3])), (q1, x_N G 176 K), (q2, x_N G 16 (g_blk K ctr 0)), (q3, x_N G 16 (g_w v K ctr 0)), (iq, x_N G ni gi)]) := B
  exact hL20 (11) 0 (by omega) (by omega) _ _ _ B (lv_sub hl [0, 1, 2, 3, 4] rfl)
set_option maxHeartbeats 4000000 in
set_option maxRecDepth 100000 in
theorem q_Ci_new (G : xG) (l : Launch) (h0 : Nat)  : xMv G l y_Ci_new c_Ci_new 1 ({ frames := 1, cells := 3, slots := 208, locals := 20 }) [.ref h0] [] [(h0, .inr (0, [.null, .null, .null]))] (Nat × Nat × Nat) (fun _ => True) (fun u => [(h0, .inr (0, [.ref u.1, .ref u.2.1, .ref u.2.2])), (u.1, x_N G 176 (fun _ => 0)), (u.2.1, x_N G 16 (fun _ => 0)), (u.2.2, x_N G 16 (fun _ => 0))]) 3 208 := by
  refine xMv.by r_Ci (by decide +kernel) (Nat.le_of_ble_eq_true rfl) rfl ?_
  intro p e s m args below meth c A ls Q E hin B hro hl hret
  have hl : lv_has ls 1 [(0, .ref h0)] := hl
  refine lv_aload_n E.1 E.2.1 d_Ci_new_0 rfl (lv_at hl 0 rfl) ?_
  refine x_oi E wd_98 wd_49 wd_50 hl.1 d_Ci_new_1 (Nat.le_of_ble_eq_true rfl) (Nat.le_of_ble_eq_true rfl) ?_
  refine lv_aload_n E.1 E.2.1 d_Ci_new_4 rfl (lv_at hl 0 rfl) ?_
  refine lv_sipush (v := nI 176) E.1 E.2.1 d_Ci_new_5 (by decide) ?_
  refine x_newa E B wd_74 (n := 176) (by decide) (Nat.le_of_ble_eq_true rfl) (Nat.le_of_ble_eq_true rfl) d_Ci_new_8 (fun q1 H B => ?_)
  have B : xB G A s _ _ ([(h0, .inr (0, [.null, .null, .null])), (q1, x_N G 176 (fun _ => 0))]) := B
  refine x_putF E hin B 0 rfl k_Ci 0 (by decide) wd_99 rfl rfl rfl rfl (Nat.le_of_ble_eq_true rfl) d_Ci_new_10 (fun H locs B => ?_)
  have B : xB G A s _ _ ([(h0, .inr (0, [.ref q1, .null, .null])), (q1, x_N G 176 (fun _ => 0))]) := B
  refine lv_aload_n E.1 E.2.1 d_Ci_new_13 rfl (lv_at hl 0 rfl) ?_
  refine lv_bipush (v := nI 16) E.1 E.2.1 d_Ci_new_14 (by decide) ?_
  refine x_newa E B wd_74 (n := 16) (by decide) (Nat.le_of_ble_eq_true rfl) (Nat.le_of_ble_eq_true rfl) d_Ci_new_16 (fun q2 H B => ?_)
  have B : xB G A s _ _ ([(h0, .inr (0, [.ref q1, .null, .null])), (q1, x_N G 176 (fun _ => 0)), (q2, x_N G 16 (fun _ => 0))]) := B
  refine x_putF E hin B 0 rfl k_Ci 1 (by decide) wd_100 rfl rfl rfl rfl (Nat.le_of_ble_eq_true rfl) d_Ci_new_18 (fun H locs B => ?_)
  have B : xB G A s _ _ ([(h0, .inr (0, [.ref q1, .ref q2, .null])), (q1, x_N G 176 (fun _ => 0)), (q2, x_N G 16 (fun _ => 0))]) := B
  refine lv_aload_n E.1 E.2.1 d_Ci_new_21 rfl (lv_at hl 0 rfl) ?_
  refine lv_bipush (v := nI 16) E.1 E.2.1 d_Ci_new_22 (by decide) ?_
  refine x_newa E B wd_74 (n := 16) (by decide) (Nat.le_of_ble_eq_true rfl) (Nat.le_of_ble_eq_true rfl) d_Ci_new_24 (fun q3 H B => ?_)
  have B : xB G A s _ _ ([(h0, .inr (0, [.ref q1, .ref q2, .null])), (q1, x_N G 176 (fun _ => 0)), (q2, x_N G 16 (fun _ => 0)), (q3, x_N G 16 (fun _ => 0))]) := B
  refine x_putF E hin B 0 rfl k_Ci 2 (by decide) wd_101 rfl rfl rfl rfl (Nat.le_of_ble_eq_true rfl) d_Ci_new_26 (fun H locs B => ?_)
  have B : xB G A s _ _ ([(h0, .inr (0, [.ref q1, .ref q2, .ref q3])), (q1, x_N G 176 (fun _ => 0)), (q2, x_N G 16 (fun _ => 0)), (q3, x_N G 16 (fun _ => 0))]) := B
  exact hret (q1, q2, q3) _ _ _ _ B trivial d_Ci_new_29
end
section
set_option maxHeartbeats 4000000 in
set_option maxRecDepth 100000 in
theorem q_In_rotateRight (l : Launch) (x k : Int32)  : xMf l y_In_rotateRight c_In_rotateRight 2 .int ({ frames := 0, cells := 0, slots := 0, locals := 0 }) [.int x, .int k] (h_r x k) := by
  refine xMf.by r_In (by decide +kernel) (Nat.le_of_ble_eq_true rfl) rfl ?_
  intro p e s m args below meth c ls Q E hl hret
  have hl : lv_has ls 2 [(0, .int x), (1, .int k)] := hl
  refine lv_iload_n E.1 E.2.1 d_In_rotateRight_0 rfl (lv_at hl 0 rfl) ?_
  refine lv_iload_n E.1 E.2.1 d_In_rotateRight_1 rfl (lv_at hl 1 rfl) ?_
  refine lv_iushr (v := b_us x k) E.1 E.2.1 d_In_rotateRight_2 rfl ?_
  refine lv_iload_n E.1 E.2.1 d_In_rotateRight_3 rfl (lv_at hl 0 rfl) ?_
  refine lv_iload_n E.1 E.2.1 d_In_rotateRight_4 rfl (lv_at hl 1 rfl) ?_
  refine lv_ineg E.1 E.2.1 d_In_rotateRight_5 ?_
  refine lv_ishl E.1 E.2.1 d_In_rotateRight_6 ?_
  refine lv_ior E.1 E.2.1 d_In_rotateRight_7 ?_
  exact hret _ _ _ (rfl) d_In_rotateRight_8
set_option maxHeartbeats 4000000 in
set_option maxRecDepth 100000 in
theorem q_Dg_filledByte (G : xG) (l : Launch) (rq rn cnt p_ : Nat) (f : Nat → Nat) (hc : cnt ≤ rn) (hn : rn < 100000) (hp : p_ < h_tot cnt) : xMr G l y_Dg_filledByte c_Dg_filledByte 6 .int ({ frames := 0, cells := 0, slots := 0, locals := 0 }) [.ref rq, .int (nI cnt), .int (nI p_), .int (nI (h_tot cnt))] [(rq, rn, nA f)] [] (nI (h_P f cnt p_)) := by
  refine xMr.by r_Dg (by decide +kernel) (Nat.le_of_ble_eq_true rfl) rfl ?_
  intro p e s m args below meth c A ls Q E B hro hl hret
  have hl : lv_has ls 6 [(0, .ref rq), (1, .int (nI cnt)), (2, .int (nI p_)), (3, .int (nI (h_tot cnt)))] := hl
  have hR0 : x_R A s s.heap rq rn (nA f) := hro _ (List.mem_of_getElem? (i := 0) rfl)
  have ht : h_tot cnt = ((cnt + 8) / 64 + 1) * 64 := rfl
  refine lv_iload_n E.1 E.2.1 d_Dg_filledByte_0 rfl (lv_at hl 2 rfl) ?_
  refine lv_iload_n E.1 E.2.1 d_Dg_filledByte_1 rfl (lv_at hl 1 rfl) ?_
  refine x_ge (tgt := 9) E d_Dg_filledByte_2 (by decide) (by omega) (by omega) (fun hc1 => ?_) (fun hc1 => ?_)
  · refine lv_iload_n E.1 E.2.1 d_Dg_filledByte_9 rfl (lv_at hl 2 rfl) ?_
    refine lv_iload_n E.1 E.2.1 d_Dg_filledByte_10 rfl (lv_at hl 1 rfl) ?_
    refine x_ne (tgt := 18) E d_Dg_filledByte_11 (by decide) (by omega) (by omega) (fun hc2 => ?_) (fun hc2 => ?_)
    · refine lv_iload_n E.1 E.2.1 d_Dg_filledByte_18 rfl (lv_at hl 2 rfl) ?_
      refine lv_iload_n E.1 E.2.1 d_Dg_filledByte_19 rfl (lv_at hl 3 rfl) ?_
      refine lv_bipush (v := nI 8) E.1 E.2.1 d_Dg_filledByte_20 (by decide) ?_
      refine x_isub E d_Dg_filledByte_22 (by omega) ?_
      refine x_ge (tgt := 28) E d_Dg_filledByte_23 (by decide) (by omega) (by omega) (fun hc3 => ?_) (fun hc3 => ?_)
      · refine lv_ldc2 E.1 E.2.1 E.2.2.2.1 (E.2.2.2.2 _ wd_258) d_Dg_filledByte_28 ?_
        refine lv_iload_n E.1 E.2.1 d_Dg_filledByte_31 rfl (lv_at hl 1 rfl) ?_
        refine lv_i2l E.1 E.2.1 d_Dg_filledByte_32 rfl ?_
        refine lv_lmul E.1 E.2.1 d_Dg_filledByte_33 ?_
        refine lv_lstore (lv' := [(4, .long ((8) * ((nI cnt).toInt64))), (0, .ref rq), (1, .int (nI cnt)), (2, .int (nI p_)), (3, .int (nI (h_tot cnt)))]) E.1 E.2.1 d_Dg_filledByte_34 hl (by decide) rfl (fun ls hl => ?_)
        refine lv_lload E.1 E.2.1 d_Dg_filledByte_36 (lv_at hl 0 rfl) ?_
        refine lv_bipush (v := nI 8) E.1 E.2.1 d_Dg_filledByte_38 (by decide) ?_
        refine lv_iload_n E.1 E.2.1 d_Dg_filledByte_40 rfl (lv_at hl 4 rfl) ?_
        refine lv_iconst (v := nI 1) E.1 E.2.1 d_Dg_filledByte_41 (by decide) ?_
        refine x_isub E d_Dg_filledByte_42 (by omega) ?_
        refine lv_iload_n E.1 E.2.1 d_Dg_filledByte_43 rfl (lv_at hl 3 rfl) ?_
        refine x_isub E d_Dg_filledByte_44 (by omega) ?_
        refine x_imul E d_Dg_filledByte_45 ?_
        refine lv_lushr E.1 E.2.1 d_Dg_filledByte_46 rfl ?_
        refine lv_l2i E.1 E.2.1 d_Dg_filledByte_47 rfl ?_
        refine lv_sipush (v := nI 255) E.1 E.2.1 d_Dg_filledByte_48 (by decide) ?_
        refine lv_iand E.1 E.2.1 d_Dg_filledByte_51 ?_
        exact hret _ _ _ ((h_len (by omega) (by omega)).trans (congrArg nI (h_P4 (by omega)).symm)) d_Dg_filledByte_52
      · refine lv_iconst (v := nI 0) E.1 E.2.1 d_Dg_filledByte_26 (by decide) ?_
        exact hret _ _ _ (congrArg nI (h_P3 (k := 8) (by omega) (by omega) (by omega)).symm) d_Dg_filledByte_27
    · refine lv_sipush (v := nI 128) E.1 E.2.1 d_Dg_filledByte_14 (by decide) ?_
      exact hret _ _ _ (by rw [hc2, h_P2]) d_Dg_filledByte_17
  · refine lv_aload_n E.1 E.2.1 d_Dg_filledByte_5 rfl (lv_at hl 0 rfl) ?_
    refine lv_iload_n E.1 E.2.1 d_Dg_filledByte_6 rfl (lv_at hl 2 rfl) ?_
    refine x_tld E B hR0 (i := p_) (by omega) (by omega) d_Dg_filledByte_7 ?_
    exact hret _ _ _ (congrArg nI (h_P1 hc1).symm) d_Dg_filledByte_8
set_option maxHeartbeats 4000000 in
set_option maxRecDepth 100000 in
theorem q_Dg_takeWords (G : xG) (l : Launch) (h0 q1 q2 q3 : Nat) (rq rn cnt fr : Nat) (f : Nat → Nat) (w0 : Nat → Int32) (hc : cnt ≤ rn) (hn : rn < 100000) (hp : fr + 64 ≤ h_tot cnt) (hf : ∀ j, j < cnt → f j < 256) : xMv G l y_Dg_takeWords c_Dg_takeWords 8 ({ frames := 1, cells := 0, slots := 0, locals := 25 }) [.ref h0, .ref rq, .int (nI cnt), .int (nI fr), .int (nI (h_tot cnt))] [(rq, rn, nA f)] [(h0, .inr (1, [.ref q1, .ref q2, .ref q3])), (q2, x_I G 64 w0)] Unit (fun _ => True) (fun u => [(h0, .inr (1, [.ref q1, .ref q2, .ref q3])), (q2, x_I G 64 (mx 16 (h_w (h_P f cnt) fr) w0))]) 0 0 := by
  refine xMv.by r_Dg (by decide +kernel) (Nat.le_of_ble_eq_true rfl) rfl ?_
  intro p e s m args below meth c A ls Q E hin B hro hl hret
  have hl : lv_has ls 8 [(0, .ref h0), (1, .ref rq), (2, .int (nI cnt)), (3, .int (nI fr)), (4, .int (nI (h_tot cnt)))] := hl
  have hR0 : x_R A s s.heap rq rn (nA f) := hro _ (List.mem_of_getElem? (i := 0) rfl)
  have ht : h_tot cnt = ((cnt + 8) / 64 + 1) * 64 := rfl
  have hP : ∀ j, h_P f cnt j < 256 := h_P_lt hf
  refine lv_iconst (v := nI 0) E.1 E.2.1 d_Dg_takeWords_0 (by decide) ?_
  refine lv_istore (lv' := [(5, .int (nI 0)), (0, .ref h0), (1, .ref rq), (2, .int (nI cnt)), (3, .int (nI fr)), (4, .int (nI (h_tot cnt)))]) E.1 E.2.1 d_Dg_takeWords_1 hl (by decide) rfl (fun ls hl => ?_)
  have hL3 : ∀ (kf : Nat) (t : Nat), 16 - t < kf → (t ≤ 16) → ∀ (H : Heap) (locs : List Loc) (ls : Array Slot), xB G A s H locs ([(h0, .inr (1, [.ref q1, .ref q2, .ref q3])), (q2, x_I G 64 (mx t (h_w (h_P f cnt) fr) w0))]) → lv_has ls 8 [(5, .int (nI t)), (0, .ref h0), (1, .ref rq), (2, .int (nI cnt)), (3, .int (nI fr)), (4, .int (nI (h_tot cnt)))] → W p l e ({ frames := 1, cells := 0, slots := 0, locals := 25 }) s m args below meth c H locs 0 0 Q (F0 m 3 ls []) := by
    intro k3
    induction k3 with
    | zero =>
      intro t hk
      exact absurd hk (Nat.not_lt_zero _)
    | succ k3 ih3 =>
      intro t hk3 hi H locs ls B hl
      refine lv_iload E.1 E.2.1 d_Dg_takeWords_3 (lv_at hl 0 rfl) ?_
      refine lv_bipush (v := nI 16) E.1 E.2.1 d_Dg_takeWords_5 (by decide) ?_
      refine x_ge (tgt := 67) E d_Dg_takeWords_7 (by decide) (by omega) (by omega) (fun c1 => ?_) (fun c1 => ?_)
      · obtain rfl : t = 16 := by omega
        exact hret () _ _ _ _ B trivial d_Dg_takeWords_67
      · refine lv_iconst (v := nI 0) E.1 E.2.1 d_Dg_takeWords_10 (by decide) ?_
        refine lv_istore (lv' := [(6, .int (nI 0)), (5, .int (nI t)), (0, .ref h0), (1, .ref rq), (2, .int (nI cnt)), (3, .int (nI fr)), (4, .int (nI (h_tot cnt)))]) E.1 E.2.1 d_Dg_takeWords_11 hl (by decide) rfl (fun ls hl => ?_)
        refine lv_iconst (v := nI 0) E.1 E.2.1 d_Dg_takeWords_13 (by decide) ?_
        refine lv_istore (lv' := [(7, .int (nI 0)), (6, .int (nI 0)), (5, .int (nI t)), (0, .ref h0), (1, .ref rq), (2, .int (nI cnt)), (3, .int (nI fr)), (4, .int (nI (h_tot cnt)))]) E.1 E.2.1 d_Dg_takeWords_14 hl (by decide) rfl (fun ls hl => ?_)
        have hL16 : ∀ (kf : Nat) (k : Nat), 4 - k < kf → (k ≤ 4) → ∀ (H : Heap) (locs : List Loc) (ls : Array Slot), xB G A s H locs ([(h0, .inr (1, [.ref q1, .ref q2, .ref q3])), (q2, x_I G 64 (mx t (h_w (h_P f cnt) fr) w0))]) → lv_has ls 8 [(7, .int (nI k)), (6, .int (nI (h_ac (h_P f cnt) (fr + 4 * t) k))), (5, .int (nI t)), (0, .ref h0), (1, .ref rq), (2, .int (nI cnt)), (3, .int (nI fr)), (4, .int (nI (h_tot cnt)))] → W p l e ({ frames := 1, cells := 0, slots := 0, locals := 25 }) s m args below meth c H locs 0 0 Q (F0 m 16 ls []) := by
          intro k16
          induction k16 with
          | zero =>
            intro k hk
            exact absurd hk (Nat.not_lt_zero _)
          | succ k16 ih16 =>
            intro k hk16 hk4 H locs ls B hl
            refine lv_iload E.1 E.2.1 d_Dg_takeWords_16 (lv_at hl 0 rfl) ?_
            refine lv_iconst (v := nI 4) E.1 E.2.1 d_Dg_takeWords_18 (by decide) ?_
            refine x_ge (tgt := 52) E d_Dg_takeWords_19 (by decide) (by omega) (by omega) (fun c2 => ?_) (fun c2 => ?_)
            · obtain rfl : k = 4 := by omega
              refine lv_aload_n E.1 E.2.1 d_Dg_takeWords_52 rfl (lv_at hl 3 rfl) ?_
              refine x_get E B 0 rfl k_Dg 1 (by decide) wd_84 rfl d_Dg_takeWords_53 ?_
              refine lv_iload E.1 E.2.1 d_Dg_takeWords_56 (lv_at hl 2 rfl) ?_
              refine lv_iload E.1 E.2.1 d_Dg_takeWords_58 (lv_at hl 1 rfl) ?_
              refine x_ast E B 1 rfl (i := t) (x := (nI (h_ac (h_P f cnt) (fr + 4 * t) 4))) (by omega) (by decide) d_Dg_takeWords_60 (fun H locs B => ?_)
              have B : xB G A s _ _ ([(h0, .inr (1, [.ref q1, .ref q2, .ref q3])), (q2, x_I G 64 (upd (mx t (h_w (h_P f cnt) fr) w0) t (nI (h_ac (h_P f cnt) (fr + 4 * t) 4))))]) := B
              have B := B.fn 1 rfl (mx (t + 1) (h_w (h_P f cnt) fr) w0) (mx_fi (h_w_0 (by omega)).symm)
              have B : xB G A s _ _ ([(h0, .inr (1, [.ref q1, .ref q2, .ref q3])), (q2, x_I G 64 (mx (t + 1) (h_w (h_P f cnt) fr) w0))]) := B
              refine x_inc E 1 (lv' := [(5, .int (nI (t + 1))), (7, .int (nI 4)), (6, .int (nI (h_ac (h_P f cnt) (fr + 4 * t) 4))), (0, .ref h0), (1, .ref rq), (2, .int (nI cnt)), (3, .int (nI fr)), (4, .int (nI (h_tot cnt)))]) d_Dg_takeWords_61 hl (k := 2) rfl rfl (by decide) rfl (fun ls hl => ?_)
              refine lv_goto (tgt := 3) E.1 E.2.1 d_Dg_takeWords_64 (by decide) ?_
              exact ih3  (t + 1) (by omega) (by omega) _ _ _ B (lv_sub hl [0, 3, 4, 5, 6, 7] rfl)
            · refine lv_iload E.1 E.2.1 d_Dg_takeWords_22 (lv_at hl 1 rfl) ?_
              refine lv_bipush (v := nI 8) E.1 E.2.1 d_Dg_takeWords_24 (by decide) ?_
              refine lv_ishl E.1 E.2.1 d_Dg_takeWords_26 ?_
              refine lv_aload_n E.1 E.2.1 d_Dg_takeWords_27 rfl (lv_at hl 4 rfl) ?_
              refine lv_iload_n E.1 E.2.1 d_Dg_takeWords_28 rfl (lv_at hl 5 rfl) ?_
              refine lv_iload_n E.1 E.2.1 d_Dg_takeWords_29 rfl (lv_at hl 6 rfl) ?_
              refine lv_iconst (v := nI 4) E.1 E.2.1 d_Dg_takeWords_30 (by decide) ?_
              refine lv_iload E.1 E.2.1 d_Dg_takeWords_31 (lv_at hl 2 rfl) ?_
              refine x_imul E d_Dg_takeWords_33 ?_
              refine x_iadd E d_Dg_takeWords_34 ?_
              refine lv_iload E.1 E.2.1 d_Dg_takeWords_35 (lv_at hl 0 rfl) ?_
              refine x_iadd E d_Dg_takeWords_37 ?_
              refine lv_iload E.1 E.2.1 d_Dg_takeWords_38 (lv_at hl 7 rfl) ?_
              refine x_cf (x_rS (rest := [.int ((nI (h_ac (h_P f cnt) (fr + 4 * t) k)) <<< ((nI 8) &&& 31))]) E (q_Dg_filledByte G l rq rn cnt ((fr + (4 * t)) + k) f (hc) (hn) (by omega) _) (x_pre B [] rfl (by decide) (x_ro1 (x_ro_t B hR0 [] rfl))) (gg_S wd_255 wd_256 wd_37 wd_257) p_Dg_filledByte rfl rfl ⟨Nat.le_of_ble_eq_true rfl, Nat.le_of_ble_eq_true rfl⟩ rfl hl.1 rfl (Nat.le_of_ble_eq_true rfl) d_Dg_takeWords_40 ⟨Nat.le_of_ble_eq_true rfl, Nat.le_of_ble_eq_true rfl⟩) ?_
              refine lv_ior E.1 E.2.1 d_Dg_takeWords_43 ?_
              refine x_top (v' := nI (h_ac (h_P f cnt) (fr + 4 * t) (k + 1))) (b_sh8 (Nat.lt_of_lt_of_le (h_ac_lt hP _ k) (by have := Nat.pow_le_pow_right (n := 256) (by decide) (show k ≤ 3 by omega); omega)) (hP _)) ?_
              refine lv_istore (lv' := [(6, .int (nI (h_ac (h_P f cnt) (fr + 4 * t) (k + 1)))), (7, .int (nI k)), (5, .int (nI t)), (0, .ref h0), (1, .ref rq), (2, .int (nI cnt)), (3, .int (nI fr)), (4, .int (nI (h_tot cnt)))]) E.1 E.2.1 d_Dg_takeWords_44 hl (by decide) rfl (fun ls hl => ?_)
              refine x_inc E 1 (lv' := [(7, .int (nI (k + 1))), (6, .int (nI (h_ac (h_P f cnt) (fr + 4 * t) (k + 1)))), (5, .int (nI t)), (0, .ref h0), (1, .ref rq), (2, .int (nI cnt)), (3, .int (nI fr)), (4, .int (nI (h_tot cnt)))]) d_Dg_takeWords_46 hl (k := 1) rfl rfl (by decide) rfl (fun ls hl => ?_)
              refine lv_goto (tgt := 16) E.1 E.2.1 d_Dg_takeWords_49 (by decide) ?_
              exact ih16  (k + 1) (by omega) (by omega) _ _ _ B (lv_sub hl [0, 1, 2, 3, 4, 5, 6, 7] rfl)
        exact hL16 (5) 0 (by omega) (by omega) _ _ _ B (lv_sub hl [0, 1, 2, 3, 4, 5, 6, 7] rfl)
  have B := B.fn 1 rfl (mx 0 (h_w (h_P f cnt) fr) w0) (mx_zi _ _)
  have B : xB G A s _ _ ([(h0, .inr (1, [.ref q1, .ref q2, .ref q3])), (q2, x_I G 64 (mx 0 (h_w (h_P f cnt) fr) w0))]) := B
  exact hL3 (17) 0 (by omega) (by omega) _ _ _ B (lv_sub hl [0, 1, 2, 3, 4, 5] rfl)
set_option maxHeartbeats 4000000 in
set_option maxRecDepth 100000 in
theorem q_Dg_spreadWords (G : xG) (l : Launch) (h0 q1 q2 q3 : Nat) (fr : Nat) (P : Nat → Nat) (w0 : Nat → Int32)  : xMv G l y_Dg_spreadWords c_Dg_spreadWords 6 ({ frames := 1, cells := 0, slots := 0, locals := 21 }) [.ref h0] [] [(h0, .inr (1, [.ref q1, .ref q2, .ref q3])), (q2, x_I G 64 (mx 16 (h_w P fr) w0))] Unit (fun _ => True) (fun u => [(h0, .inr (1, [.ref q1, .ref q2, .ref q3])), (q2, x_I G 64 (h_w P fr))]) 0 0 := by
  refine xMv.by r_Dg (by decide +kernel) (Nat.le_of_ble_eq_true rfl) rfl ?_
  intro p e s m args below meth c A ls Q E hin B hro hl hret
  have hl : lv_has ls 6 [(0, .ref h0)] := hl
  refine lv_bipush (v := nI 16) E.1 E.2.1 d_Dg_spreadWords_0 (by decide) ?_
  refine lv_istore_n (lv' := [(1, .int (nI 16)), (0, .ref h0)]) E.1 E.2.1 d_Dg_spreadWords_2 rfl hl (by decide) rfl (fun ls hl => ?_)
  have hL3 : ∀ (kf : Nat) (t : Nat), 64 - t < kf → (16 ≤ t) → (t ≤ 64) → ∀ (H : Heap) (locs : List Loc) (ls : Array Slot), xB G A s H locs ([(h0, .inr (1, [.ref q1, .ref q2, .ref q3])), (q2, x_I G 64 (mx t (h_w P fr) w0))]) → lv_has ls 6 [(1, .int (nI t)), (0, .ref h0)] → W p l e ({ frames := 1, cells := 0, slots := 0, locals := 21 }) s m args below meth c H locs 0 0 Q (F0 m 3 ls []) := by
    intro k3
    induction k3 with
    | zero =>
      intro t hk
      exact absurd hk (Nat.not_lt_zero _)
    | succ k3 ih3 =>
      intro t hk3 h16 hi H locs ls B hl
      refine lv_iload_n E.1 E.2.1 d_Dg_spreadWords_3 rfl (lv_at hl 0 rfl) ?_
      refine lv_bipush (v := nI 64) E.1 E.2.1 d_Dg_spreadWords_4 (by decide) ?_
      refine x_ge (tgt := 104) E d_Dg_spreadWords_6 (by decide) (by omega) (by omega) (fun c1 => ?_) (fun c1 => ?_)
      · obtain rfl : t = 64 := by omega
        have B := B.fn 1 rfl (h_w P fr) (mx_ei)
        have B : xB G A s _ _ ([(h0, .inr (1, [.ref q1, .ref q2, .ref q3])), (q2, x_I G 64 (h_w P fr))]) := B
        exact hret () _ _ _ _ B trivial d_Dg_spreadWords_104
      · refine lv_aload_n E.1 E.2.1 d_Dg_spreadWords_9 rfl (lv_at hl 1 rfl) ?_
        refine x_get E B 0 rfl k_Dg 1 (by decide) wd_84 rfl d_Dg_spreadWords_10 ?_
        refine lv_iload_n E.1 E.2.1 d_Dg_spreadWords_13 rfl (lv_at hl 0 rfl) ?_
        refine lv_bipush (v := nI 15) E.1 E.2.1 d_Dg_spreadWords_14 (by decide) ?_
        refine x_isub E d_Dg_spreadWords_16 (by omega) ?_
        refine x_ald E B 1 rfl (i := t - 15) (by omega) (by decide) d_Dg_spreadWords_17 ?_
        refine x_top (v' := (h_w P fr (t - 15))) (mx_lt (by omega)) ?_
        refine lv_istore_n (lv' := [(2, .int (h_w P fr (t - 15))), (1, .int (nI t)), (0, .ref h0)]) E.1 E.2.1 d_Dg_spreadWords_18 rfl hl (by decide) rfl (fun ls hl => ?_)
        refine lv_aload_n E.1 E.2.1 d_Dg_spreadWords_19 rfl (lv_at hl 2 rfl) ?_
        refine x_get E B 0 rfl k_Dg 1 (by decide) wd_84 rfl d_Dg_spreadWords_20 ?_
        refine lv_iload_n E.1 E.2.1 d_Dg_spreadWords_23 rfl (lv_at hl 1 rfl) ?_
        refine lv_iconst (v := nI 2) E.1 E.2.1 d_Dg_spreadWords_24 (by decide) ?_
        refine x_isub E d_Dg_spreadWords_25 (by omega) ?_
        refine x_ald E B 1 rfl (i := t - 2) (by omega) (by decide) d_Dg_spreadWords_26 ?_
        refine x_top (v' := (h_w P fr (t - 2))) (mx_lt (by omega)) ?_
        refine lv_istore_n (lv' := [(3, .int (h_w P fr (t - 2))), (2, .int (h_w P fr (t - 15))), (1, .int (nI t)), (0, .ref h0)]) E.1 E.2.1 d_Dg_spreadWords_27 rfl hl (by decide) rfl (fun ls hl => ?_)
        refine lv_iload_n E.1 E.2.1 d_Dg_spreadWords_28 rfl (lv_at hl 1 rfl) ?_
        refine lv_bipush (v := nI 7) E.1 E.2.1 d_Dg_spreadWords_29 (by decide) ?_
        refine x_cf (x_rS (rest := []) E (q_In_rotateRight l (h_w P fr (t - 15)) (nI 7) ) x_pf (gg_S wd_263 wd_264 wd_42 wd_265) p_In_rotateRight rfl rfl ⟨Nat.le_of_ble_eq_true rfl, Nat.le_of_ble_eq_true rfl⟩ rfl hl.1 rfl (Nat.le_of_ble_eq_true rfl) d_Dg_spreadWords_31 ⟨Nat.le_of_ble_eq_true rfl, Nat.le_of_ble_eq_true rfl⟩) ?_
        refine lv_iload_n E.1 E.2.1 d_Dg_spreadWords_34 rfl (lv_at hl 1 rfl) ?_
        refine lv_bipush (v := nI 18) E.1 E.2.1 d_Dg_spreadWords_35 (by decide) ?_
        refine x_cf (x_rS (rest := [.int (h_r (h_w P fr (t - 15)) (nI 7))]) E (q_In_rotateRight l (h_w P fr (t - 15)) (nI 18) ) x_pf (gg_S wd_263 wd_264 wd_42 wd_265) p_In_rotateRight rfl rfl ⟨Nat.le_of_ble_eq_true rfl, Nat.le_of_ble_eq_true rfl⟩ rfl hl.1 rfl (Nat.le_of_ble_eq_true rfl) d_Dg_spreadWords_37 ⟨Nat.le_of_ble_eq_true rfl, Nat.le_of_ble_eq_true rfl⟩) ?_
        refine lv_ixor E.1 E.2.1 d_Dg_spreadWords_40 ?_
        refine lv_iload_n E.1 E.2.1 d_Dg_spreadWords_41 rfl (lv_at hl 1 rfl) ?_
        refine lv_iconst (v := nI 3) E.1 E.2.1 d_Dg_spreadWords_42 (by decide) ?_
        refine lv_iushr (v := b_us (h_w P fr (t - 15)) (nI 3)) E.1 E.2.1 d_Dg_spreadWords_43 rfl ?_
        refine lv_ixor E.1 E.2.1 d_Dg_spreadWords_44 ?_
        refine lv_istore (lv' := [(4, .int (((h_r (h_w P fr (t - 15)) (nI 7)) ^^^ (h_r (h_w P fr (t - 15)) (nI 18))) ^^^ (b_us (h_w P fr (t - 15)) (nI 3)))), (3, .int (h_w P fr (t - 2))), (2, .int (h_w P fr (t - 15))), (1, .int (nI t)), (0, .ref h0)]) E.1 E.2.1 d_Dg_spreadWords_45 hl (by decide) rfl (fun ls hl => ?_)
        refine lv_iload_n E.1 E.2.1 d_Dg_spreadWords_47 rfl (lv_at hl 1 rfl) ?_
        refine lv_bipush (v := nI 17) E.1 E.2.1 d_Dg_spreadWords_48 (by decide) ?_
        refine x_cf (x_rS (rest := []) E (q_In_rotateRight l (h_w P fr (t - 2)) (nI 17) ) x_pf (gg_S wd_263 wd_264 wd_42 wd_265) p_In_rotateRight rfl rfl ⟨Nat.le_of_ble_eq_true rfl, Nat.le_of_ble_eq_true rfl⟩ rfl hl.1 rfl (Nat.le_of_ble_eq_true rfl) d_Dg_spreadWords_50 ⟨Nat.le_of_ble_eq_true rfl, Nat.le_of_ble_eq_true rfl⟩) ?_
        refine lv_iload_n E.1 E.2.1 d_Dg_spreadWords_53 rfl (lv_at hl 1 rfl) ?_
        refine lv_bipush (v := nI 19) E.1 E.2.1 d_Dg_spreadWords_54 (by decide) ?_
        refine x_cf (x_rS (rest := [.int (h_r (h_w P fr (t - 2)) (nI 17))]) E (q_In_rotateRight l (h_w P fr (t - 2)) (nI 19) ) x_pf (gg_S wd_263 wd_264 wd_42 wd_265) p_In_rotateRight rfl rfl ⟨Nat.le_of_ble_eq_true rfl, Nat.le_of_ble_eq_true rfl⟩ rfl hl.1 rfl (Nat.le_of_ble_eq_true rfl) d_Dg_spreadWords_56 ⟨Nat.le_of_ble_eq_true rfl, Nat.le_of_ble_eq_true rfl⟩) ?_
        refine lv_ixor E.1 E.2.1 d_Dg_spreadWords_59 ?_
        refine lv_iload_n E.1 E.2.1 d_Dg_spreadWords_60 rfl (lv_at hl 1 rfl) ?_
        refine lv_bipush (v := nI 10) E.1 E.2.1 d_Dg_spreadWords_61 (by decide) ?_
        refine lv_iushr (v := b_us (h_w P fr (t - 2)) (nI 10)) E.1 E.2.1 d_Dg_spreadWords_63 rfl ?_
        refine lv_ixor E.1 E.2.1 d_Dg_spreadWords_64 ?_
        refine lv_istore (lv' := [(5, .int (((h_r (h_w P fr (t - 2)) (nI 17)) ^^^ (h_r (h_w P fr (t - 2)) (nI 19))) ^^^ (b_us (h_w P fr (t - 2)) (nI 10)))), (4, .int (((h_r (h_w P fr (t - 15)) (nI 7)) ^^^ (h_r (h_w P fr (t - 15)) (nI 18))) ^^^ (b_us (h_w P fr (t - 15)) (nI 3)))), (3, .int (h_w P fr (t - 2))), (2, .int (h_w P fr (t - 15))), (1, .int (nI t)), (0, .ref h0)]) E.1 E.2.1 d_Dg_spreadWords_65 hl (by decide) rfl (fun ls hl => ?_)
        refine lv_aload_n E.1 E.2.1 d_Dg_spreadWords_67 rfl (lv_at hl 5 rfl) ?_
        refine x_get E B 0 rfl k_Dg 1 (by decide) wd_84 rfl d_Dg_spreadWords_68 ?_
        refine lv_iload_n E.1 E.2.1 d_Dg_spreadWords_71 rfl (lv_at hl 4 rfl) ?_
        refine lv_aload_n E.1 E.2.1 d_Dg_spreadWords_72 rfl (lv_at hl 5 rfl) ?_
        refine x_get E B 0 rfl k_Dg 1 (by decide) wd_84 rfl d_Dg_spreadWords_73 ?_
        refine lv_iload_n E.1 E.2.1 d_Dg_spreadWords_76 rfl (lv_at hl 4 rfl) ?_
        refine lv_bipush (v := nI 16) E.1 E.2.1 d_Dg_spreadWords_77 (by decide) ?_
        refine x_isub E d_Dg_spreadWords_79 (by omega) ?_
        refine x_ald E B 1 rfl (i := t - 16) (by omega) (by decide) d_Dg_spreadWords_80 ?_
        refine x_top (v' := (h_w P fr (t - 16))) (mx_lt (by omega)) ?_
        refine lv_iload E.1 E.2.1 d_Dg_spreadWords_81 (lv_at hl 1 rfl) ?_
        refine lv_iadd E.1 E.2.1 d_Dg_spreadWords_83 ?_
        refine lv_aload_n E.1 E.2.1 d_Dg_spreadWords_84 rfl (lv_at hl 5 rfl) ?_
        refine x_get E B 0 rfl k_Dg 1 (by decide) wd_84 rfl d_Dg_spreadWords_85 ?_
        refine lv_iload_n E.1 E.2.1 d_Dg_spreadWords_88 rfl (lv_at hl 4 rfl) ?_
        refine lv_bipush (v := nI 7) E.1 E.2.1 d_Dg_spreadWords_89 (by decide) ?_
        refine x_isub E d_Dg_spreadWords_91 (by omega) ?_
        refine x_ald E B 1 rfl (i := t - 7) (by omega) (by decide) d_Dg_spreadWords_92 ?_
        refine x_top (v' := (h_w P fr (t - 7))) (mx_lt (by omega)) ?_
        refine lv_iadd E.1 E.2.1 d_Dg_spreadWords_93 ?_
        refine lv_iload E.1 E.2.1 d_Dg_spreadWords_94 (lv_at hl 0 rfl) ?_
        refine lv_iadd E.1 E.2.1 d_Dg_spreadWords_96 ?_
        refine x_ast E B 1 rfl (i := t) (x := ((((h_w P fr (t - 16)) + (((h_r (h_w P fr (t - 15)) (nI 7)) ^^^ (h_r (h_w P fr (t - 15)) (nI 18))) ^^^ (b_us (h_w P fr (t - 15)) (nI 3)))) + (h_w P fr (t - 7))) + (((h_r (h_w P fr (t - 2)) (nI 17)) ^^^ (h_r (h_w P fr (t - 2)) (nI 19))) ^^^ (b_us (h_w P fr (t - 2)) (nI 10))))) (by omega) (by decide) d_Dg_spreadWords_97 (fun H locs B => ?_)
        have B : xB G A s _ _ ([(h0, .inr (1, [.ref q1, .ref q2, .ref q3])), (q2, x_I G 64 (upd (mx t (h_w P fr) w0) t ((((h_w P fr (t - 16)) + (((h_r (h_w P fr (t - 15)) (nI 7)) ^^^ (h_r (h_w P fr (t - 15)) (nI 18))) ^^^ (b_us (h_w P fr (t - 15)) (nI 3)))) + (h_w P fr (t - 7))) + (((h_r (h_w P fr (t - 2)) (nI 17)) ^^^ (h_r (h_w P fr (t - 2)) (nI 19))) ^^^ (b_us (h_w P fr (t - 2)) (nI 10))))))]) := B
        have B := B.fn 1 rfl (mx (t + 1) (h_w P fr) w0) (mx_fi (h_w_1 (by omega)).symm)
        have B : xB G A s _ _ ([(h0, .inr (1, [.ref q1, .ref q2, .ref q3])), (q2, x_I G 64 (mx (t + 1) (h_w P fr) w0))]) := B
        refine x_inc E 1 (lv' := [(1, .int (nI (t + 1))), (5, .int (((h_r (h_w P fr (t - 2)) (nI 17)) ^^^ (h_r (h_w P fr (t - 2)) (nI 19))) ^^^ (b_us (h_w P fr (t - 2)) (nI 10)))), (4, .int (((h_r (h_w P fr (t - 15)) (nI 7)) ^^^ (h_r (h_w P fr (t - 15)) (nI 18))) ^^^ (b_us (h_w P fr (t - 15)) (nI 3)))), (3, .int (h_w P fr (t - 2))), (2, .int (h_w P fr (t - 15))), (0, .ref h0)]) d_Dg_spreadWords_98 hl (k := 4) rfl rfl (by decide) rfl (fun ls hl => ?_)
        refine lv_goto (tgt := 3) E.1 E.2.1 d_Dg_spreadWords_101 (by decide) ?_
        exact ih3  (t + 1) (by omega) (by omega) (by omega) _ _ _ B (lv_sub hl [0, 5] rfl)
  exact hL3 (65) 16 (by omega) (by omega) (by omega) _ _ _ B (lv_sub hl [0, 1] rfl)
set_option maxHeartbeats 4000000 in
set_option maxRecDepth 100000 in
theorem q_Dg_mixWords (G : xG) (l : Launch) (h0 q1 q2 q3 : Nat) (Hf Wf : Nat → Int32)  : xMv G l y_Dg_mixWords c_Dg_mixWords 14 ({ frames := 1, cells := 0, slots := 0, locals := 21 }) [.ref h0] [] [(h0, .inr (1, [.ref q1, .ref q2, .ref q3])), (q1, x_I G 8 Hf), (q2, x_I G 64 Wf)] Unit (fun _ => True) (fun u => [(h0, .inr (1, [.ref q1, .ref q2, .ref q3])), (q1, x_I G 8 (h_cp Hf Wf)), (q2, x_I G 64 Wf)]) 0 0 := by
  refine xMv.by r_Dg (by decide +kernel) (Nat.le_of_ble_eq_true rfl) rfl ?_
  intro p e s m args below meth c A ls Q E hin B hro hl hret
  have hl : lv_has ls 14 [(0, .ref h0)] := hl
  refine lv_aload_n E.1 E.2.1 d_Dg_mixWords_0 rfl (lv_at hl 0 rfl) ?_
  refine x_get E B 0 rfl k_Dg 0 (by decide) wd_83 rfl d_Dg_mixWords_1 ?_
  refine lv_iconst (v := nI 0) E.1 E.2.1 d_Dg_mixWords_4 (by decide) ?_
  refine x_ald E B 1 rfl (i := 0) (by omega) (by decide) d_Dg_mixWords_5 ?_
  refine lv_istore_n (lv' := [(1, .int (Hf 0)), (0, .ref h0)]) E.1 E.2.1 d_Dg_mixWords_6 rfl hl (by decide) rfl (fun ls hl => ?_)
  refine lv_aload_n E.1 E.2.1 d_Dg_mixWords_7 rfl (lv_at hl 1 rfl) ?_
  refine x_get E B 0 rfl k_Dg 0 (by decide) wd_83 rfl d_Dg_mixWords_8 ?_
  refine lv_iconst (v := nI 1) E.1 E.2.1 d_Dg_mixWords_11 (by decide) ?_
  refine x_ald E B 1 rfl (i := 1) (by omega) (by decide) d_Dg_mixWords_12 ?_
  refine lv_istore_n (lv' := [(2, .int (Hf 1)), (1, .int (Hf 0)), (0, .ref h0)]) E.1 E.2.1 d_Dg_mixWords_13 rfl hl (by decide) rfl (fun ls hl => ?_)
  refine lv_aload_n E.1 E.2.1 d_Dg_mixWords_14 rfl (lv_at hl 2 rfl) ?_
  refine x_get E B 0 rfl k_Dg 0 (by decide) wd_83 rfl d_Dg_mixWords_15 ?_
  refine lv_iconst (v := nI 2) E.1 E.2.1 d_Dg_mixWords_18 (by decide) ?_
  refine x_ald E B 1 rfl (i := 2) (by omega) (by decide) d_Dg_mixWords_19 ?_
  refine lv_istore_n (lv' := [(3, .int (Hf 2)), (2, .int (Hf 1)), (1, .int (Hf 0)), (0, .ref h0)]) E.1 E.2.1 d_Dg_mixWords_20 rfl hl (by decide) rfl (fun ls hl => ?_)
  refine lv_aload_n E.1 E.2.1 d_Dg_mixWords_21 rfl (lv_at hl 3 rfl) ?_
  refine x_get E B 0 rfl k_Dg 0 (by decide) wd_83 rfl d_Dg_mixWords_22 ?_
  refine lv_iconst (v := nI 3) E.1 E.2.1 d_Dg_mixWords_25 (by decide) ?_
  refine x_ald E B 1 rfl (i := 3) (by omega) (by decide) d_Dg_mixWords_26 ?_
  refine lv_istore (lv' := [(4, .int (Hf 3)), (3, .int (Hf 2)), (2, .int (Hf 1)), (1, .int (Hf 0)), (0, .ref h0)]) E.1 E.2.1 d_Dg_mixWords_27 hl (by decide) rfl (fun ls hl => ?_)
  refine lv_aload_n E.1 E.2.1 d_Dg_mixWords_29 rfl (lv_at hl 4 rfl) ?_
  refine x_get E B 0 rfl k_Dg 0 (by decide) wd_83 rfl d_Dg_mixWords_30 ?_
  refine lv_iconst (v := nI 4) E.1 E.2.1 d_Dg_mixWords_33 (by decide) ?_
  refine x_ald E B 1 rfl (i := 4) (by omega) (by decide) d_Dg_mixWords_34 ?_
  refine lv_istore (lv' := [(5, .int (Hf 4)), (4, .int (Hf 3)), (3, .int (Hf 2)), (2, .int (Hf 1)), (1, .int (Hf 0)), (0, .ref h0)]) E.1 E.2.1 d_Dg_mixWords_35 hl (by decide) rfl (fun ls hl => ?_)
  refine lv_aload_n E.1 E.2.1 d_Dg_mixWords_37 rfl (lv_at hl 5 rfl) ?_
  refine x_get E B 0 rfl k_Dg 0 (by decide) wd_83 rfl d_Dg_mixWords_38 ?_
  refine lv_iconst (v := nI 5) E.1 E.2.1 d_Dg_mixWords_41 (by decide) ?_
  refine x_ald E B 1 rfl (i := 5) (by omega) (by decide) d_Dg_mixWords_42 ?_
  refine lv_istore (lv' := [(6, .int (Hf 5)), (5, .int (Hf 4)), (4, .int (Hf 3)), (3, .int (Hf 2)), (2, .int (Hf 1)), (1, .int (Hf 0)), (0, .ref h0)]) E.1 E.2.1 d_Dg_mixWords_43 hl (by decide) rfl (fun ls hl => ?_)
  refine lv_aload_n E.1 E.2.1 d_Dg_mixWords_45 rfl (lv_at hl 6 rfl) ?_
  refine x_get E B 0 rfl k_Dg 0 (by decide) wd_83 rfl d_Dg_mixWords_46 ?_
  refine lv_bipush (v := nI 6) E.1 E.2.1 d_Dg_mixWords_49 (by decide) ?_
  refine x_ald E B 1 rfl (i := 6) (by omega) (by decide) d_Dg_mixWords_51 ?_
  refine lv_istore (lv' := [(7, .int (Hf 6)), (6, .int (Hf 5)), (5, .int (Hf 4)), (4, .int (Hf 3)), (3, .int (Hf 2)), (2, .int (Hf 1)), (1, .int (Hf 0)), (0, .ref h0)]) E.1 E.2.1 d_Dg_mixWords_52 hl (by decide) rfl (fun ls hl => ?_)
  refine lv_aload_n E.1 E.2.1 d_Dg_mixWords_54 rfl (lv_at hl 7 rfl) ?_
  refine x_get E B 0 rfl k_Dg 0 (by decide) wd_83 rfl d_Dg_mixWords_55 ?_
  refine lv_bipush (v := nI 7) E.1 E.2.1 d_Dg_mixWords_58 (by decide) ?_
  refine x_ald E B 1 rfl (i := 7) (by omega) (by decide) d_Dg_mixWords_60 ?_
  refine lv_istore (lv' := [(8, .int (Hf 7)), (7, .int (Hf 6)), (6, .int (Hf 5)), (5, .int (Hf 4)), (4, .int (Hf 3)), (3, .int (Hf 2)), (2, .int (Hf 1)), (1, .int (Hf 0)), (0, .ref h0)]) E.1 E.2.1 d_Dg_mixWords_61 hl (by decide) rfl (fun ls hl => ?_)
  refine lv_iconst (v := nI 0) E.1 E.2.1 d_Dg_mixWords_63 (by decide) ?_
  refine lv_istore (lv' := [(9, .int (nI 0)), (8, .int (Hf 7)), (7, .int (Hf 6)), (6, .int (Hf 5)), (5, .int (Hf 4)), (4, .int (Hf 3)), (3, .int (Hf 2)), (2, .int (Hf 1)), (1, .int (Hf 0)), (0, .ref h0)]) E.1 E.2.1 d_Dg_mixWords_64 hl (by decide) rfl (fun ls hl => ?_)
  have hL66 : ∀ (kf : Nat) (t : Nat), 64 - t < kf → (t ≤ 64) → ∀ (H : Heap) (locs : List Loc) (ls : Array Slot), xB G A s H locs ([(h0, .inr (1, [.ref q1, .ref q2, .ref q3])), (q1, x_I G 8 Hf), (q2, x_I G 64 Wf)]) → lv_has ls 14 [(9, .int (nI t)), (1, .int (h_rd Hf Wf t 0)), (2, .int (h_rd Hf Wf t 1)), (3, .int (h_rd Hf Wf t 2)), (4, .int (h_rd Hf Wf t 3)), (5, .int (h_rd Hf Wf t 4)), (6, .int (h_rd Hf Wf t 5)), (7, .int (h_rd Hf Wf t 6)), (8, .int (h_rd Hf Wf t 7)), (0, .ref h0)] → W p l e ({ frames := 1, cells := 0, slots := 0, locals := 21 }) s m args below meth c H locs 0 0 Q (F0 m 66 ls []) := by
    intro k66
    induction k66 with
    | zero =>
      intro t hk
      exact absurd hk (Nat.not_lt_zero _)
    | succ k66 ih66 =>
      intro t hk66 hi H locs ls B hl
      refine lv_iload E.1 E.2.1 d_Dg_mixWords_66 (lv_at hl 0 rfl) ?_
      refine lv_bipush (v := nI 64) E.1 E.2.1 d_Dg_mixWords_68 (by decide) ?_
      refine x_ge (tgt := 209) E d_Dg_mixWords_70 (by decide) (by omega) (by omega) (fun c1 => ?_) (fun c1 => ?_)
      · obtain rfl : t = 64 := by omega
        refine lv_aload_n E.1 E.2.1 d_Dg_mixWords_209 rfl (lv_at hl 9 rfl) ?_
        refine x_get E B 0 rfl k_Dg 0 (by decide) wd_83 rfl d_Dg_mixWords_210 ?_
        refine lv_iconst (v := nI 0) E.1 E.2.1 d_Dg_mixWords_213 (by decide) ?_
        refine lv_dup2_11 E.1 E.2.1 d_Dg_mixWords_214 rfl rfl ?_
        refine x_ald E B 1 rfl (i := 0) (by omega) (by decide) d_Dg_mixWords_215 ?_
        refine x_top (v' := (Hf 0)) (rfl) ?_
        refine lv_iload_n E.1 E.2.1 d_Dg_mixWords_216 rfl (lv_at hl 1 rfl) ?_
        refine lv_iadd E.1 E.2.1 d_Dg_mixWords_217 ?_
        refine x_ast E B 1 rfl (i := 0) (x := ((Hf 0) + (h_rd Hf Wf 64 0))) (by omega) (by decide) d_Dg_mixWords_218 (fun H locs B => ?_)
        have B : xB G A s _ _ ([(h0, .inr (1, [.ref q1, .ref q2, .ref q3])), (q1, x_I G 8 (upd Hf 0 ((Hf 0) + (h_rd Hf Wf 64 0)))), (q2, x_I G 64 Wf)]) := B
        refine lv_aload_n E.1 E.2.1 d_Dg_mixWords_219 rfl (lv_at hl 9 rfl) ?_
        refine x_get E B 0 rfl k_Dg 0 (by decide) wd_83 rfl d_Dg_mixWords_220 ?_
        refine lv_iconst (v := nI 1) E.1 E.2.1 d_Dg_mixWords_223 (by decide) ?_
        refine lv_dup2_11 E.1 E.2.1 d_Dg_mixWords_224 rfl rfl ?_
        refine x_ald E B 1 rfl (i := 1) (by omega) (by decide) d_Dg_mixWords_225 ?_
        refine x_top (v' := (Hf 1)) (rfl) ?_
        refine lv_iload_n E.1 E.2.1 d_Dg_mixWords_226 rfl (lv_at hl 2 rfl) ?_
        refine lv_iadd E.1 E.2.1 d_Dg_mixWords_227 ?_
        refine x_ast E B 1 rfl (i := 1) (x := ((Hf 1) + (h_rd Hf Wf 64 1))) (by omega) (by decide) d_Dg_mixWords_228 (fun H locs B => ?_)
        have B : xB G A s _ _ ([(h0, .inr (1, [.ref q1, .ref q2, .ref q3])), (q1, x_I G 8 (upd (upd Hf 0 ((Hf 0) + (h_rd Hf Wf 64 0))) 1 ((Hf 1) + (h_rd Hf Wf 64 1)))), (q2, x_I G 64 Wf)]) := B
        refine lv_aload_n E.1 E.2.1 d_Dg_mixWords_229 rfl (lv_at hl 9 rfl) ?_
        refine x_get E B 0 rfl k_Dg 0 (by decide) wd_83 rfl d_Dg_mixWords_230 ?_
        refine lv_iconst (v := nI 2) E.1 E.2.1 d_Dg_mixWords_233 (by decide) ?_
        refine lv_dup2_11 E.1 E.2.1 d_Dg_mixWords_234 rfl rfl ?_
        refine x_ald E B 1 rfl (i := 2) (by omega) (by decide) d_Dg_mixWords_235 ?_
        refine x_top (v' := (Hf 2)) (rfl) ?_
        refine lv_iload_n E.1 E.2.1 d_Dg_mixWords_236 rfl (lv_at hl 3 rfl) ?_
        refine lv_iadd E.1 E.2.1 d_Dg_mixWords_237 ?_
        refine x_ast E B 1 rfl (i := 2) (x := ((Hf 2) + (h_rd Hf Wf 64 2))) (by omega) (by decide) d_Dg_mixWords_238 (fun H locs B => ?_)
        have B : xB G A s _ _ ([(h0, .inr (1, [.ref q1, .ref q2, .ref q3])), (q1, x_I G 8 (upd (upd (upd Hf 0 ((Hf 0) + (h_rd Hf Wf 64 0))) 1 ((Hf 1) + (h_rd Hf Wf 64 1))) 2 ((Hf 2) + (h_rd Hf Wf 64 2)))), (q2, x_I G 64 Wf)]) := B
        refine lv_aload_n E.1 E.2.1 d_Dg_mixWords_239 rfl (lv_at hl 9 rfl) ?_
        refine x_get E B 0 rfl k_Dg 0 (by decide) wd_83 rfl d_Dg_mixWords_240 ?_
        refine lv_iconst (v := nI 3) E.1 E.2.1 d_Dg_mixWords_243 (by decide) ?_
        refine lv_dup2_11 E.1 E.2.1 d_Dg_mixWords_244 rfl rfl ?_
        refine x_ald E B 1 rfl (i := 3) (by omega) (by decide) d_Dg_mixWords_245 ?_
        refine x_top (v' := (Hf 3)) (rfl) ?_
        refine lv_iload E.1 E.2.1 d_Dg_mixWords_246 (lv_at hl 4 rfl) ?_
        refine lv_iadd E.1 E.2.1 d_Dg_mixWords_248 ?_
        refine x_ast E B 1 rfl (i := 3) (x := ((Hf 3) + (h_rd Hf Wf 64 3))) (by omega) (by decide) d_Dg_mixWords_249 (fun H locs B => ?_)
        have B : xB G A s _ _ ([(h0, .inr (1, [.ref q1, .ref q2, .ref q3])), (q1, x_I G 8 (upd (upd (upd (upd Hf 0 ((Hf 0) + (h_rd Hf Wf 64 0))) 1 ((Hf 1) + (h_rd Hf Wf 64 1))) 2 ((Hf 2) + (h_rd Hf Wf 64 2))) 3 ((Hf 3) + (h_rd Hf Wf 64 3)))), (q2, x_I G 64 Wf)]) := B
        refine lv_aload_n E.1 E.2.1 d_Dg_mixWords_250 rfl (lv_at hl 9 rfl) ?_
        refine x_get E B 0 rfl k_Dg 0 (by decide) wd_83 rfl d_Dg_mixWords_251 ?_
        refine lv_iconst (v := nI 4) E.1 E.2.1 d_Dg_mixWords_254 (by decide) ?_
        refine lv_dup2_11 E.1 E.2.1 d_Dg_mixWords_255 rfl rfl ?_
        refine x_ald E B 1 rfl (i := 4) (by omega) (by decide) d_Dg_mixWords_256 ?_
        refine x_top (v' := (Hf 4)) (rfl) ?_
        refine lv_iload E.1 E.2.1 d_Dg_mixWords_257 (lv_at hl 5 rfl) ?_
        refine lv_iadd E.1 E.2.1 d_Dg_mixWords_259 ?_
        refine x_ast E B 1 rfl (i := 4) (x := ((Hf 4) + (h_rd Hf Wf 64 4))) (by omega) (by decide) d_Dg_mixWords_260 (fun H locs B => ?_)
        have B : xB G A s _ _ ([(h0, .inr (1, [.ref q1, .ref q2, .ref q3])), (q1, x_I G 8 (upd (upd (upd (upd (upd Hf 0 ((Hf 0) + (h_rd Hf Wf 64 0))) 1 ((Hf 1) + (h_rd Hf Wf 64 1))) 2 ((Hf 2) + (h_rd Hf Wf 64 2))) 3 ((Hf 3) + (h_rd Hf Wf 64 3))) 4 ((Hf 4) + (h_rd Hf Wf 64 4)))), (q2, x_I G 64 Wf)]) := B
        refine lv_aload_n E.1 E.2.1 d_Dg_mixWords_261 rfl (lv_at hl 9 rfl) ?_
        refine x_get E B 0 rfl k_Dg 0 (by decide) wd_83 rfl d_Dg_mixWords_262 ?_
        refine lv_iconst (v := nI 5) E.1 E.2.1 d_Dg_mixWords_265 (by decide) ?_
        refine lv_dup2_11 E.1 E.2.1 d_Dg_mixWords_266 rfl rfl ?_
        refine x_ald E B 1 rfl (i := 5) (by omega) (by decide) d_Dg_mixWords_267 ?_
        refine x_top (v' := (Hf 5)) (rfl) ?_
        refine lv_iload E.1 E.2.1 d_Dg_mixWords_268 (lv_at hl 6 rfl) ?_
        refine lv_iadd E.1 E.2.1 d_Dg_mixWords_270 ?_
        refine x_ast E B 1 rfl (i := 5) (x := ((Hf 5) + (h_rd Hf Wf 64 5))) (by omega) (by decide) d_Dg_mixWords_271 (fun H locs B => ?_)
        have B : xB G A s _ _ ([(h0, .inr (1, [.ref q1, .ref q2, .ref q3])), (q1, x_I G 8 (upd (upd (upd (upd (upd (upd Hf 0 ((Hf 0) + (h_rd Hf Wf 64 0))) 1 ((Hf 1) + (h_rd Hf Wf 64 1))) 2 ((Hf 2) + (h_rd Hf Wf 64 2))) 3 ((Hf 3) + (h_rd Hf Wf 64 3))) 4 ((Hf 4) + (h_rd Hf Wf 64 4))) 5 ((Hf 5) + (h_rd Hf Wf 64 5)))), (q2, x_I G 64 Wf)]) := B
        refine lv_aload_n E.1 E.2.1 d_Dg_mixWords_272 rfl (lv_at hl 9 rfl) ?_
        refine x_get E B 0 rfl k_Dg 0 (by decide) wd_83 rfl d_Dg_mixWords_273 ?_
        refine lv_bipush (v := nI 6) E.1 E.2.1 d_Dg_mixWords_276 (by decide) ?_
        refine lv_dup2_11 E.1 E.2.1 d_Dg_mixWords_278 rfl rfl ?_
        refine x_ald E B 1 rfl (i := 6) (by omega) (by decide) d_Dg_mixWords_279 ?_
        refine x_top (v' := (Hf 6)) (rfl) ?_
        refine lv_iload E.1 E.2.1 d_Dg_mixWords_280 (lv_at hl 7 rfl) ?_
        refine lv_iadd E.1 E.2.1 d_Dg_mixWords_282 ?_
        refine x_ast E B 1 rfl (i := 6) (x := ((Hf 6) + (h_rd Hf Wf 64 6))) (by omega) (by decide) d_Dg_mixWords_283 (fun H locs B => ?_)
        have B : xB G A s _ _ ([(h0, .inr (1, [.ref q1, .ref q2, .ref q3])), (q1, x_I G 8 (upd (upd (upd (upd (upd (upd (upd Hf 0 ((Hf 0) + (h_rd Hf Wf 64 0))) 1 ((Hf 1) + (h_rd Hf Wf 64 1))) 2 ((Hf 2) + (h_rd Hf Wf 64 2))) 3 ((Hf 3) + (h_rd Hf Wf 64 3))) 4 ((Hf 4) + (h_rd Hf Wf 64 4))) 5 ((Hf 5) + (h_rd Hf Wf 64 5))) 6 ((Hf 6) + (h_rd Hf Wf 64 6)))), (q2, x_I G 64 Wf)]) := B
        refine lv_aload_n E.1 E.2.1 d_Dg_mixWords_284 rfl (lv_at hl 9 rfl) ?_
        refine x_get E B 0 rfl k_Dg 0 (by decide) wd_83 rfl d_Dg_mixWords_285 ?_
        refine lv_bipush (v := nI 7) E.1 E.2.1 d_Dg_mixWords_288 (by decide) ?_
        refine lv_dup2_11 E.1 E.2.1 d_Dg_mixWords_290 rfl rfl ?_
        refine x_ald E B 1 rfl (i := 7) (by omega) (by decide) d_Dg_mixWords_291 ?_
        refine x_top (v' := (Hf 7)) (rfl) ?_
        refine lv_iload E.1 E.2.1 d_Dg_mixWords_292 (lv_at hl 8 rfl) ?_
        refine lv_iadd E.1 E.2.1 d_Dg_mixWords_294 ?_
        refine x_ast E B 1 rfl (i := 7) (x := ((Hf 7) + (h_rd Hf Wf 64 7))) (by omega) (by decide) d_Dg_mixWords_295 (fun H locs B => ?_)
        have B : xB G A s _ _ ([(h0, .inr (1, [.ref q1, .ref q2, .ref q3])), (q1, x_I G 8 (upd (upd (upd (upd (upd (upd (upd (upd Hf 0 ((Hf 0) + (h_rd Hf Wf 64 0))) 1 ((Hf 1) + (h_rd Hf Wf 64 1))) 2 ((Hf 2) + (h_rd Hf Wf 64 2))) 3 ((Hf 3) + (h_rd Hf Wf 64 3))) 4 ((Hf 4) + (h_rd Hf Wf 64 4))) 5 ((Hf 5) + (h_rd Hf Wf 64 5))) 6 ((Hf 6) + (h_rd Hf Wf 64 6))) 7 ((Hf 7) + (h_rd Hf Wf 64 7)))), (q2, x_I G 64 Wf)]) := B
        have B := B.fn 1 rfl (h_cp Hf Wf) (h_cpE (x := h_rd Hf Wf 64) (fun _ => rfl))
        have B : xB G A s _ _ ([(h0, .inr (1, [.ref q1, .ref q2, .ref q3])), (q1, x_I G 8 (h_cp Hf Wf)), (q2, x_I G 64 Wf)]) := B
        exact hret () _ _ _ _ B trivial d_Dg_mixWords_296
      · refine lv_iload E.1 E.2.1 d_Dg_mixWords_73 (lv_at hl 5 rfl) ?_
        refine lv_bipush (v := nI 6) E.1 E.2.1 d_Dg_mixWords_75 (by decide) ?_
        refine x_cf (x_rS (rest := []) E (q_In_rotateRight l (h_rd Hf Wf t 4) (nI 6) ) x_pf (gg_S wd_263 wd_264 wd_42 wd_265) p_In_rotateRight rfl rfl ⟨Nat.le_of_ble_eq_true rfl, Nat.le_of_ble_eq_true rfl⟩ rfl hl.1 rfl (Nat.le_of_ble_eq_true rfl) d_Dg_mixWords_77 ⟨Nat.le_of_ble_eq_true rfl, Nat.le_of_ble_eq_true rfl⟩) ?_
        refine lv_iload E.1 E.2.1 d_Dg_mixWords_80 (lv_at hl 5 rfl) ?_
        refine lv_bipush (v := nI 11) E.1 E.2.1 d_Dg_mixWords_82 (by decide) ?_
        refine x_cf (x_rS (rest := [.int (h_r (h_rd Hf Wf t 4) (nI 6))]) E (q_In_rotateRight l (h_rd Hf Wf t 4) (nI 11) ) x_pf (gg_S wd_263 wd_264 wd_42 wd_265) p_In_rotateRight rfl rfl ⟨Nat.le_of_ble_eq_true rfl, Nat.le_of_ble_eq_true rfl⟩ rfl hl.1 rfl (Nat.le_of_ble_eq_true rfl) d_Dg_mixWords_84 ⟨Nat.le_of_ble_eq_true rfl, Nat.le_of_ble_eq_true rfl⟩) ?_
        refine lv_ixor E.1 E.2.1 d_Dg_mixWords_87 ?_
        refine lv_iload E.1 E.2.1 d_Dg_mixWords_88 (lv_at hl 5 rfl) ?_
        refine lv_bipush (v := nI 25) E.1 E.2.1 d_Dg_mixWords_90 (by decide) ?_
        refine x_cf (x_rS (rest := [.int ((h_r (h_rd Hf Wf t 4) (nI 6)) ^^^ (h_r (h_rd Hf Wf t 4) (nI 11)))]) E (q_In_rotateRight l (h_rd Hf Wf t 4) (nI 25) ) x_pf (gg_S wd_263 wd_264 wd_42 wd_265) p_In_rotateRight rfl rfl ⟨Nat.le_of_ble_eq_true rfl, Nat.le_of_ble_eq_true rfl⟩ rfl hl.1 rfl (Nat.le_of_ble_eq_true rfl) d_Dg_mixWords_92 ⟨Nat.le_of_ble_eq_true rfl, Nat.le_of_ble_eq_true rfl⟩) ?_
        refine lv_ixor E.1 E.2.1 d_Dg_mixWords_95 ?_
        refine lv_istore (lv' := [(10, .int (((h_r (h_rd Hf Wf t 4) (nI 6)) ^^^ (h_r (h_rd Hf Wf t 4) (nI 11))) ^^^ (h_r (h_rd Hf Wf t 4) (nI 25)))), (9, .int (nI t)), (1, .int (h_rd Hf Wf t 0)), (2, .int (h_rd Hf Wf t 1)), (3, .int (h_rd Hf Wf t 2)), (4, .int (h_rd Hf Wf t 3)), (5, .int (h_rd Hf Wf t 4)), (6, .int (h_rd Hf Wf t 5)), (7, .int (h_rd Hf Wf t 6)), (8, .int (h_rd Hf Wf t 7)), (0, .ref h0)]) E.1 E.2.1 d_Dg_mixWords_96 hl (by decide) rfl (fun ls hl => ?_)
        refine lv_iload_n E.1 E.2.1 d_Dg_mixWords_98 rfl (lv_at hl 2 rfl) ?_
        refine lv_iconst (v := nI 2) E.1 E.2.1 d_Dg_mixWords_99 (by decide) ?_
        refine x_cf (x_rS (rest := []) E (q_In_rotateRight l (h_rd Hf Wf t 0) (nI 2) ) x_pf (gg_S wd_263 wd_264 wd_42 wd_265) p_In_rotateRight rfl rfl ⟨Nat.le_of_ble_eq_true rfl, Nat.le_of_ble_eq_true rfl⟩ rfl hl.1 rfl (Nat.le_of_ble_eq_true rfl) d_Dg_mixWords_100 ⟨Nat.le_of_ble_eq_true rfl, Nat.le_of_ble_eq_true rfl⟩) ?_
        refine lv_iload_n E.1 E.2.1 d_Dg_mixWords_103 rfl (lv_at hl 2 rfl) ?_
        refine lv_bipush (v := nI 13) E.1 E.2.1 d_Dg_mixWords_104 (by decide) ?_
        refine x_cf (x_rS (rest := [.int (h_r (h_rd Hf Wf t 0) (nI 2))]) E (q_In_rotateRight l (h_rd Hf Wf t 0) (nI 13) ) x_pf (gg_S wd_263 wd_264 wd_42 wd_265) p_In_rotateRight rfl rfl ⟨Nat.le_of_ble_eq_true rfl, Nat.le_of_ble_eq_true rfl⟩ rfl hl.1 rfl (Nat.le_of_ble_eq_true rfl) d_Dg_mixWords_106 ⟨Nat.le_of_ble_eq_true rfl, Nat.le_of_ble_eq_true rfl⟩) ?_
        refine lv_ixor E.1 E.2.1 d_Dg_mixWords_109 ?_
        refine lv_iload_n E.1 E.2.1 d_Dg_mixWords_110 rfl (lv_at hl 2 rfl) ?_
        refine lv_bipush (v := nI 22) E.1 E.2.1 d_Dg_mixWords_111 (by decide) ?_
        refine x_cf (x_rS (rest := [.int ((h_r (h_rd Hf Wf t 0) (nI 2)) ^^^ (h_r (h_rd Hf Wf t 0) (nI 13)))]) E (q_In_rotateRight l (h_rd Hf Wf t 0) (nI 22) ) x_pf (gg_S wd_263 wd_264 wd_42 wd_265) p_In_rotateRight rfl rfl ⟨Nat.le_of_ble_eq_true rfl, Nat.le_of_ble_eq_true rfl⟩ rfl hl.1 rfl (Nat.le_of_ble_eq_true rfl) d_Dg_mixWords_113 ⟨Nat.le_of_ble_eq_true rfl, Nat.le_of_ble_eq_true rfl⟩) ?_
        refine lv_ixor E.1 E.2.1 d_Dg_mixWords_116 ?_
        refine lv_istore (lv' := [(11, .int (((h_r (h_rd Hf Wf t 0) (nI 2)) ^^^ (h_r (h_rd Hf Wf t 0) (nI 13))) ^^^ (h_r (h_rd Hf Wf t 0) (nI 22)))), (10, .int (((h_r (h_rd Hf Wf t 4) (nI 6)) ^^^ (h_r (h_rd Hf Wf t 4) (nI 11))) ^^^ (h_r (h_rd Hf Wf t 4) (nI 25)))), (9, .int (nI t)), (1, .int (h_rd Hf Wf t 0)), (2, .int (h_rd Hf Wf t 1)), (3, .int (h_rd Hf Wf t 2)), (4, .int (h_rd Hf Wf t 3)), (5, .int (h_rd Hf Wf t 4)), (6, .int (h_rd Hf Wf t 5)), (7, .int (h_rd Hf Wf t 6)), (8, .int (h_rd Hf Wf t 7)), (0, .ref h0)]) E.1 E.2.1 d_Dg_mixWords_117 hl (by decide) rfl (fun ls hl => ?_)
        refine lv_iload E.1 E.2.1 d_Dg_mixWords_119 (lv_at hl 10 rfl) ?_
        refine lv_iload E.1 E.2.1 d_Dg_mixWords_121 (lv_at hl 1 rfl) ?_
        refine lv_iadd E.1 E.2.1 d_Dg_mixWords_123 ?_
        refine lv_iload E.1 E.2.1 d_Dg_mixWords_124 (lv_at hl 7 rfl) ?_
        refine lv_iload E.1 E.2.1 d_Dg_mixWords_126 (lv_at hl 8 rfl) ?_
        refine lv_iand E.1 E.2.1 d_Dg_mixWords_128 ?_
        refine lv_iload E.1 E.2.1 d_Dg_mixWords_129 (lv_at hl 7 rfl) ?_
        refine lv_iconst (v := -1) E.1 E.2.1 d_Dg_mixWords_131 (by decide) ?_
        refine lv_ixor E.1 E.2.1 d_Dg_mixWords_132 ?_
        refine lv_iload E.1 E.2.1 d_Dg_mixWords_133 (lv_at hl 9 rfl) ?_
        refine lv_iand E.1 E.2.1 d_Dg_mixWords_135 ?_
        refine lv_ixor E.1 E.2.1 d_Dg_mixWords_136 ?_
        refine lv_iadd E.1 E.2.1 d_Dg_mixWords_137 ?_
        refine x_gets E B B.2.2.2.2.1.1.1 wd_270 d_Dg_mixWords_138 ?_
        refine lv_iload E.1 E.2.1 d_Dg_mixWords_141 (lv_at hl 2 rfl) ?_
        refine x_tld E B B.2.2.2.2.1.1.2 (i := t) (by omega) (by decide) d_Dg_mixWords_143 ?_
        refine lv_iadd E.1 E.2.1 d_Dg_mixWords_144 ?_
        refine lv_aload_n E.1 E.2.1 d_Dg_mixWords_145 rfl (lv_at hl 11 rfl) ?_
        refine x_get E B 0 rfl k_Dg 1 (by decide) wd_84 rfl d_Dg_mixWords_146 ?_
        refine lv_iload E.1 E.2.1 d_Dg_mixWords_149 (lv_at hl 2 rfl) ?_
        refine x_ald E B 2 rfl (i := t) (by omega) (by decide) d_Dg_mixWords_151 ?_
        refine lv_iadd E.1 E.2.1 d_Dg_mixWords_152 ?_
        refine lv_istore (lv' := [(12, .int (((((h_rd Hf Wf t 7) + (((h_r (h_rd Hf Wf t 4) (nI 6)) ^^^ (h_r (h_rd Hf Wf t 4) (nI 11))) ^^^ (h_r (h_rd Hf Wf t 4) (nI 25)))) + (((h_rd Hf Wf t 4) &&& (h_rd Hf Wf t 5)) ^^^ (((h_rd Hf Wf t 4) ^^^ (-1)) &&& (h_rd Hf Wf t 6)))) + (k_K t)) + (Wf t))), (11, .int (((h_r (h_rd Hf Wf t 0) (nI 2)) ^^^ (h_r (h_rd Hf Wf t 0) (nI 13))) ^^^ (h_r (h_rd Hf Wf t 0) (nI 22)))), (10, .int (((h_r (h_rd Hf Wf t 4) (nI 6)) ^^^ (h_r (h_rd Hf Wf t 4) (nI 11))) ^^^ (h_r (h_rd Hf Wf t 4) (nI 25)))), (9, .int (nI t)), (1, .int (h_rd Hf Wf t 0)), (2, .int (h_rd Hf Wf t 1)), (3, .int (h_rd Hf Wf t 2)), (4, .int (h_rd Hf Wf t 3)), (5, .int (h_rd Hf Wf t 4)), (6, .int (h_rd Hf Wf t 5)), (7, .int (h_rd Hf Wf t 6)), (8, .int (h_rd Hf Wf t 7)), (0, .ref h0)]) E.1 E.2.1 d_Dg_mixWords_153 hl (by decide) rfl (fun ls hl => ?_)
        refine lv_iload E.1 E.2.1 d_Dg_mixWords_155 (lv_at hl 1 rfl) ?_
        refine lv_iload_n E.1 E.2.1 d_Dg_mixWords_157 rfl (lv_at hl 4 rfl) ?_
        refine lv_iload_n E.1 E.2.1 d_Dg_mixWords_158 rfl (lv_at hl 5 rfl) ?_
        refine lv_iand E.1 E.2.1 d_Dg_mixWords_159 ?_
        refine lv_iload_n E.1 E.2.1 d_Dg_mixWords_160 rfl (lv_at hl 4 rfl) ?_
        refine lv_iload_n E.1 E.2.1 d_Dg_mixWords_161 rfl (lv_at hl 6 rfl) ?_
        refine lv_iand E.1 E.2.1 d_Dg_mixWords_162 ?_
        refine lv_ixor E.1 E.2.1 d_Dg_mixWords_163 ?_
        refine lv_iload_n E.1 E.2.1 d_Dg_mixWords_164 rfl (lv_at hl 5 rfl) ?_
        refine lv_iload_n E.1 E.2.1 d_Dg_mixWords_165 rfl (lv_at hl 6 rfl) ?_
        refine lv_iand E.1 E.2.1 d_Dg_mixWords_166 ?_
        refine lv_ixor E.1 E.2.1 d_Dg_mixWords_167 ?_
        refine lv_iadd E.1 E.2.1 d_Dg_mixWords_168 ?_
        refine lv_istore (lv' := [(13, .int ((((h_r (h_rd Hf Wf t 0) (nI 2)) ^^^ (h_r (h_rd Hf Wf t 0) (nI 13))) ^^^ (h_r (h_rd Hf Wf t 0) (nI 22))) + ((((h_rd Hf Wf t 0) &&& (h_rd Hf Wf t 1)) ^^^ ((h_rd Hf Wf t 0) &&& (h_rd Hf Wf t 2))) ^^^ ((h_rd Hf Wf t 1) &&& (h_rd Hf Wf t 2))))), (12, .int (((((h_rd Hf Wf t 7) + (((h_r (h_rd Hf Wf t 4) (nI 6)) ^^^ (h_r (h_rd Hf Wf t 4) (nI 11))) ^^^ (h_r (h_rd Hf Wf t 4) (nI 25)))) + (((h_rd Hf Wf t 4) &&& (h_rd Hf Wf t 5)) ^^^ (((h_rd Hf Wf t 4) ^^^ (-1)) &&& (h_rd Hf Wf t 6)))) + (k_K t)) + (Wf t))), (11, .int (((h_r (h_rd Hf Wf t 0) (nI 2)) ^^^ (h_r (h_rd Hf Wf t 0) (nI 13))) ^^^ (h_r (h_rd Hf Wf t 0) (nI 22)))), (10, .int (((h_r (h_rd Hf Wf t 4) (nI 6)) ^^^ (h_r (h_rd Hf Wf t 4) (nI 11))) ^^^ (h_r (h_rd Hf Wf t 4) (nI 25)))), (9, .int (nI t)), (1, .int (h_rd Hf Wf t 0)), (2, .int (h_rd Hf Wf t 1)), (3, .int (h_rd Hf Wf t 2)), (4, .int (h_rd Hf Wf t 3)), (5, .int (h_rd Hf Wf t 4)), (6, .int (h_rd Hf Wf t 5)), (7, .int (h_rd Hf Wf t 6)), (8, .int (h_rd Hf Wf t 7)), (0, .ref h0)]) E.1 E.2.1 d_Dg_mixWords_169 hl (by decide) rfl (fun ls hl => ?_)
        refine lv_iload E.1 E.2.1 d_Dg_mixWords_171 (lv_at hl 11 rfl) ?_
        refine lv_istore (lv' := [(8, .int (h_rd Hf Wf t 6)), (13, .int ((((h_r (h_rd Hf Wf t 0) (nI 2)) ^^^ (h_r (h_rd Hf Wf t 0) (nI 13))) ^^^ (h_r (h_rd Hf Wf t 0) (nI 22))) + ((((h_rd Hf Wf t 0) &&& (h_rd Hf Wf t 1)) ^^^ ((h_rd Hf Wf t 0) &&& (h_rd Hf Wf t 2))) ^^^ ((h_rd Hf Wf t 1) &&& (h_rd Hf Wf t 2))))), (12, .int (((((h_rd Hf Wf t 7) + (((h_r (h_rd Hf Wf t 4) (nI 6)) ^^^ (h_r (h_rd Hf Wf t 4) (nI 11))) ^^^ (h_r (h_rd Hf Wf t 4) (nI 25)))) + (((h_rd Hf Wf t 4) &&& (h_rd Hf Wf t 5)) ^^^ (((h_rd Hf Wf t 4) ^^^ (-1)) &&& (h_rd Hf Wf t 6)))) + (k_K t)) + (Wf t))), (11, .int (((h_r (h_rd Hf Wf t 0) (nI 2)) ^^^ (h_r (h_rd Hf Wf t 0) (nI 13))) ^^^ (h_r (h_rd Hf Wf t 0) (nI 22)))), (10, .int (((h_r (h_rd Hf Wf t 4) (nI 6)) ^^^ (h_r (h_rd Hf Wf t 4) (nI 11))) ^^^ (h_r (h_rd Hf Wf t 4) (nI 25)))), (9, .int (nI t)), (1, .int (h_rd Hf Wf t 0)), (2, .int (h_rd Hf Wf t 1)), (3, .int (h_rd Hf Wf t 2)), (4, .int (h_rd Hf Wf t 3)), (5, .int (h_rd Hf Wf t 4)), (6, .int (h_rd Hf Wf t 5)), (7, .int (h_rd Hf Wf t 6)), (0, .ref h0)]) E.1 E.2.1 d_Dg_mixWords_173 hl (by decide) rfl (fun ls hl => ?_)
        refine lv_iload E.1 E.2.1 d_Dg_mixWords_175 (lv_at hl 11 rfl) ?_
        refine lv_istore (lv' := [(7, .int (h_rd Hf Wf t 5)), (8, .int (h_rd Hf Wf t 6)), (13, .int ((((h_r (h_rd Hf Wf t 0) (nI 2)) ^^^ (h_r (h_rd Hf Wf t 0) (nI 13))) ^^^ (h_r (h_rd Hf Wf t 0) (nI 22))) + ((((h_rd Hf Wf t 0) &&& (h_rd Hf Wf t 1)) ^^^ ((h_rd Hf Wf t 0) &&& (h_rd Hf Wf t 2))) ^^^ ((h_rd Hf Wf t 1) &&& (h_rd Hf Wf t 2))))), (12, .int (((((h_rd Hf Wf t 7) + (((h_r (h_rd Hf Wf t 4) (nI 6)) ^^^ (h_r (h_rd Hf Wf t 4) (nI 11))) ^^^ (h_r (h_rd Hf Wf t 4) (nI 25)))) + (((h_rd Hf Wf t 4) &&& (h_rd Hf Wf t 5)) ^^^ (((h_rd Hf Wf t 4) ^^^ (-1)) &&& (h_rd Hf Wf t 6)))) + (k_K t)) + (Wf t))), (11, .int (((h_r (h_rd Hf Wf t 0) (nI 2)) ^^^ (h_r (h_rd Hf Wf t 0) (nI 13))) ^^^ (h_r (h_rd Hf Wf t 0) (nI 22)))), (10, .int (((h_r (h_rd Hf Wf t 4) (nI 6)) ^^^ (h_r (h_rd Hf Wf t 4) (nI 11))) ^^^ (h_r (h_rd Hf Wf t 4) (nI 25)))), (9, .int (nI t)), (1, .int (h_rd Hf Wf t 0)), (2, .int (h_rd Hf Wf t 1)), (3, .int (h_rd Hf Wf t 2)), (4, .int (h_rd Hf Wf t 3)), (5, .int (h_rd Hf Wf t 4)), (6, .int (h_rd Hf Wf t 5)), (0, .ref h0)]) E.1 E.2.1 d_Dg_mixWords_177 hl (by decide) rfl (fun ls hl => ?_)
        refine lv_iload E.1 E.2.1 d_Dg_mixWords_179 (lv_at hl 11 rfl) ?_
        refine lv_istore (lv' := [(6, .int (h_rd Hf Wf t 4)), (7, .int (h_rd Hf Wf t 5)), (8, .int (h_rd Hf Wf t 6)), (13, .int ((((h_r (h_rd Hf Wf t 0) (nI 2)) ^^^ (h_r (h_rd Hf Wf t 0) (nI 13))) ^^^ (h_r (h_rd Hf Wf t 0) (nI 22))) + ((((h_rd Hf Wf t 0) &&& (h_rd Hf Wf t 1)) ^^^ ((h_rd Hf Wf t 0) &&& (h_rd Hf Wf t 2))) ^^^ ((h_rd Hf Wf t 1) &&& (h_rd Hf Wf t 2))))), (12, .int (((((h_rd Hf Wf t 7) + (((h_r (h_rd Hf Wf t 4) (nI 6)) ^^^ (h_r (h_rd Hf Wf t 4) (nI 11))) ^^^ (h_r (h_rd Hf Wf t 4) (nI 25)))) + (((h_rd Hf Wf t 4) &&& (h_rd Hf Wf t 5)) ^^^ (((h_rd Hf Wf t 4) ^^^ (-1)) &&& (h_rd Hf Wf t 6)))) + (k_K t)) + (Wf t))), (11, .int (((h_r (h_rd Hf Wf t 0) (nI 2)) ^^^ (h_r (h_rd Hf Wf t 0) (nI 13))) ^^^ (h_r (h_rd Hf Wf t 0) (nI 22)))), (10, .int (((h_r (h_rd Hf Wf t 4) (nI 6)) ^^^ (h_r (h_rd Hf Wf t 4) (nI 11))) ^^^ (h_r (h_rd Hf Wf t 4) (nI 25)))), (9, .int (nI t)), (1, .int (h_rd Hf Wf t 0)), (2, .int (h_rd Hf Wf t 1)), (3, .int (h_rd Hf Wf t 2)), (4, .int (h_rd Hf Wf t 3)), (5, .int (h_rd Hf Wf t 4)), (0, .ref h0)]) E.1 E.2.1 d_Dg_mixWords_181 hl (by decide) rfl (fun ls hl => ?_)
        refine lv_iload E.1 E.2.1 d_Dg_mixWords_183 (lv_at hl 11 rfl) ?_
        refine lv_iload E.1 E.2.1 d_Dg_mixWords_185 (lv_at hl 4 rfl) ?_
        refine lv_iadd E.1 E.2.1 d_Dg_mixWords_187 ?_
        refine lv_istore (lv' := [(5, .int ((h_rd Hf Wf t 3) + (((((h_rd Hf Wf t 7) + (((h_r (h_rd Hf Wf t 4) (nI 6)) ^^^ (h_r (h_rd Hf Wf t 4) (nI 11))) ^^^ (h_r (h_rd Hf Wf t 4) (nI 25)))) + (((h_rd Hf Wf t 4) &&& (h_rd Hf Wf t 5)) ^^^ (((h_rd Hf Wf t 4) ^^^ (-1)) &&& (h_rd Hf Wf t 6)))) + (k_K t)) + (Wf t)))), (6, .int (h_rd Hf Wf t 4)), (7, .int (h_rd Hf Wf t 5)), (8, .int (h_rd Hf Wf t 6)), (13, .int ((((h_r (h_rd Hf Wf t 0) (nI 2)) ^^^ (h_r (h_rd Hf Wf t 0) (nI 13))) ^^^ (h_r (h_rd Hf Wf t 0) (nI 22))) + ((((h_rd Hf Wf t 0) &&& (h_rd Hf Wf t 1)) ^^^ ((h_rd Hf Wf t 0) &&& (h_rd Hf Wf t 2))) ^^^ ((h_rd Hf Wf t 1) &&& (h_rd Hf Wf t 2))))), (12, .int (((((h_rd Hf Wf t 7) + (((h_r (h_rd Hf Wf t 4) (nI 6)) ^^^ (h_r (h_rd Hf Wf t 4) (nI 11))) ^^^ (h_r (h_rd Hf Wf t 4) (nI 25)))) + (((h_rd Hf Wf t 4) &&& (h_rd Hf Wf t 5)) ^^^ (((h_rd Hf Wf t 4) ^^^ (-1)) &&& (h_rd Hf Wf t 6)))) + (k_K t)) + (Wf t))), (11, .int (((h_r (h_rd Hf Wf t 0) (nI 2)) ^^^ (h_r (h_rd Hf Wf t 0) (nI 13))) ^^^ (h_r (h_rd Hf Wf t 0) (nI 22)))), (10, .int (((h_r (h_rd Hf Wf t 4) (nI 6)) ^^^ (h_r (h_rd Hf Wf t 4) (nI 11))) ^^^ (h_r (h_rd Hf Wf t 4) (nI 25)))), (9, .int (nI t)), (1, .int (h_rd Hf Wf t 0)), (2, .int (h_rd Hf Wf t 1)), (3, .int (h_rd Hf Wf t 2)), (4, .int (h_rd Hf Wf t 3)), (0, .ref h0)]) E.1 E.2.1 d_Dg_mixWords_188 hl (by decide) rfl (fun ls hl => ?_)
        refine lv_iload_n E.1 E.2.1 d_Dg_mixWords_190 rfl (lv_at hl 11 rfl) ?_
        refine lv_istore (lv' := [(4, .int (h_rd Hf Wf t 2)), (5, .int ((h_rd Hf Wf t 3) + (((((h_rd Hf Wf t 7) + (((h_r (h_rd Hf Wf t 4) (nI 6)) ^^^ (h_r (h_rd Hf Wf t 4) (nI 11))) ^^^ (h_r (h_rd Hf Wf t 4) (nI 25)))) + (((h_rd Hf Wf t 4) &&& (h_rd Hf Wf t 5)) ^^^ (((h_rd Hf Wf t 4) ^^^ (-1)) &&& (h_rd Hf Wf t 6)))) + (k_K t)) + (Wf t)))), (6, .int (h_rd Hf Wf t 4)), (7, .int (h_rd Hf Wf t 5)), (8, .int (h_rd Hf Wf t 6)), (13, .int ((((h_r (h_rd Hf Wf t 0) (nI 2)) ^^^ (h_r (h_rd Hf Wf t 0) (nI 13))) ^^^ (h_r (h_rd Hf Wf t 0) (nI 22))) + ((((h_rd Hf Wf t 0) &&& (h_rd Hf Wf t 1)) ^^^ ((h_rd Hf Wf t 0) &&& (h_rd Hf Wf t 2))) ^^^ ((h_rd Hf Wf t 1) &&& (h_rd Hf Wf t 2))))), (12, .int (((((h_rd Hf Wf t 7) + (((h_r (h_rd Hf Wf t 4) (nI 6)) ^^^ (h_r (h_rd Hf Wf t 4) (nI 11))) ^^^ (h_r (h_rd Hf Wf t 4) (nI 25)))) + (((h_rd Hf Wf t 4) &&& (h_rd Hf Wf t 5)) ^^^ (((h_rd Hf Wf t 4) ^^^ (-1)) &&& (h_rd Hf Wf t 6)))) + (k_K t)) + (Wf t))), (11, .int (((h_r (h_rd Hf Wf t 0) (nI 2)) ^^^ (h_r (h_rd Hf Wf t 0) (nI 13))) ^^^ (h_r (h_rd Hf Wf t 0) (nI 22)))), (10, .int (((h_r (h_rd Hf Wf t 4) (nI 6)) ^^^ (h_r (h_rd Hf Wf t 4) (nI 11))) ^^^ (h_r (h_rd Hf Wf t 4) (nI 25)))), (9, .int (nI t)), (1, .int (h_rd Hf Wf t 0)), (2, .int (h_rd Hf Wf t 1)), (3, .int (h_rd Hf Wf t 2)), (0, .ref h0)]) E.1 E.2.1 d_Dg_mixWords_191 hl (by decide) rfl (fun ls hl => ?_)
        refine lv_iload_n E.1 E.2.1 d_Dg_mixWords_193 rfl (lv_at hl 11 rfl) ?_
        refine lv_istore_n (lv' := [(3, .int (h_rd Hf Wf t 1)), (4, .int (h_rd Hf Wf t 2)), (5, .int ((h_rd Hf Wf t 3) + (((((h_rd Hf Wf t 7) + (((h_r (h_rd Hf Wf t 4) (nI 6)) ^^^ (h_r (h_rd Hf Wf t 4) (nI 11))) ^^^ (h_r (h_rd Hf Wf t 4) (nI 25)))) + (((h_rd Hf Wf t 4) &&& (h_rd Hf Wf t 5)) ^^^ (((h_rd Hf Wf t 4) ^^^ (-1)) &&& (h_rd Hf Wf t 6)))) + (k_K t)) + (Wf t)))), (6, .int (h_rd Hf Wf t 4)), (7, .int (h_rd Hf Wf t 5)), (8, .int (h_rd Hf Wf t 6)), (13, .int ((((h_r (h_rd Hf Wf t 0) (nI 2)) ^^^ (h_r (h_rd Hf Wf t 0) (nI 13))) ^^^ (h_r (h_rd Hf Wf t 0) (nI 22))) + ((((h_rd Hf Wf t 0) &&& (h_rd Hf Wf t 1)) ^^^ ((h_rd Hf Wf t 0) &&& (h_rd Hf Wf t 2))) ^^^ ((h_rd Hf Wf t 1) &&& (h_rd Hf Wf t 2))))), (12, .int (((((h_rd Hf Wf t 7) + (((h_r (h_rd Hf Wf t 4) (nI 6)) ^^^ (h_r (h_rd Hf Wf t 4) (nI 11))) ^^^ (h_r (h_rd Hf Wf t 4) (nI 25)))) + (((h_rd Hf Wf t 4) &&& (h_rd Hf Wf t 5)) ^^^ (((h_rd Hf Wf t 4) ^^^ (-1)) &&& (h_rd Hf Wf t 6)))) + (k_K t)) + (Wf t))), (11, .int (((h_r (h_rd Hf Wf t 0) (nI 2)) ^^^ (h_r (h_rd Hf Wf t 0) (nI 13))) ^^^ (h_r (h_rd Hf Wf t 0) (nI 22)))), (10, .int (((h_r (h_rd Hf Wf t 4) (nI 6)) ^^^ (h_r (h_rd Hf Wf t 4) (nI 11))) ^^^ (h_r (h_rd Hf Wf t 4) (nI 25)))), (9, .int (nI t)), (1, .int (h_rd Hf Wf t 0)), (2, .int (h_rd Hf Wf t 1)), (0, .ref h0)]) E.1 E.2.1 d_Dg_mixWords_194 rfl hl (by decide) rfl (fun ls hl => ?_)
        refine lv_iload_n E.1 E.2.1 d_Dg_mixWords_195 rfl (lv_at hl 11 rfl) ?_
        refine lv_istore_n (lv' := [(2, .int (h_rd Hf Wf t 0)), (3, .int (h_rd Hf Wf t 1)), (4, .int (h_rd Hf Wf t 2)), (5, .int ((h_rd Hf Wf t 3) + (((((h_rd Hf Wf t 7) + (((h_r (h_rd Hf Wf t 4) (nI 6)) ^^^ (h_r (h_rd Hf Wf t 4) (nI 11))) ^^^ (h_r (h_rd Hf Wf t 4) (nI 25)))) + (((h_rd Hf Wf t 4) &&& (h_rd Hf Wf t 5)) ^^^ (((h_rd Hf Wf t 4) ^^^ (-1)) &&& (h_rd Hf Wf t 6)))) + (k_K t)) + (Wf t)))), (6, .int (h_rd Hf Wf t 4)), (7, .int (h_rd Hf Wf t 5)), (8, .int (h_rd Hf Wf t 6)), (13, .int ((((h_r (h_rd Hf Wf t 0) (nI 2)) ^^^ (h_r (h_rd Hf Wf t 0) (nI 13))) ^^^ (h_r (h_rd Hf Wf t 0) (nI 22))) + ((((h_rd Hf Wf t 0) &&& (h_rd Hf Wf t 1)) ^^^ ((h_rd Hf Wf t 0) &&& (h_rd Hf Wf t 2))) ^^^ ((h_rd Hf Wf t 1) &&& (h_rd Hf Wf t 2))))), (12, .int (((((h_rd Hf Wf t 7) + (((h_r (h_rd Hf Wf t 4) (nI 6)) ^^^ (h_r (h_rd Hf Wf t 4) (nI 11))) ^^^ (h_r (h_rd Hf Wf t 4) (nI 25)))) + (((h_rd Hf Wf t 4) &&& (h_rd Hf Wf t 5)) ^^^ (((h_rd Hf Wf t 4) ^^^ (-1)) &&& (h_rd Hf Wf t 6)))) + (k_K t)) + (Wf t))), (11, .int (((h_r (h_rd Hf Wf t 0) (nI 2)) ^^^ (h_r (h_rd Hf Wf t 0) (nI 13))) ^^^ (h_r (h_rd Hf Wf t 0) (nI 22)))), (10, .int (((h_r (h_rd Hf Wf t 4) (nI 6)) ^^^ (h_r (h_rd Hf Wf t 4) (nI 11))) ^^^ (h_r (h_rd Hf Wf t 4) (nI 25)))), (9, .int (nI t)), (1, .int (h_rd Hf Wf t 0)), (0, .ref h0)]) E.1 E.2.1 d_Dg_mixWords_196 rfl hl (by decide) rfl (fun ls hl => ?_)
        refine lv_iload E.1 E.2.1 d_Dg_mixWords_197 (lv_at hl 8 rfl) ?_
        refine lv_iload E.1 E.2.1 d_Dg_mixWords_199 (lv_at hl 7 rfl) ?_
        refine lv_iadd E.1 E.2.1 d_Dg_mixWords_201 ?_
        refine lv_istore_n (lv' := [(1, .int ((((((h_rd Hf Wf t 7) + (((h_r (h_rd Hf Wf t 4) (nI 6)) ^^^ (h_r (h_rd Hf Wf t 4) (nI 11))) ^^^ (h_r (h_rd Hf Wf t 4) (nI 25)))) + (((h_rd Hf Wf t 4) &&& (h_rd Hf Wf t 5)) ^^^ (((h_rd Hf Wf t 4) ^^^ (-1)) &&& (h_rd Hf Wf t 6)))) + (k_K t)) + (Wf t)) + ((((h_r (h_rd Hf Wf t 0) (nI 2)) ^^^ (h_r (h_rd Hf Wf t 0) (nI 13))) ^^^ (h_r (h_rd Hf Wf t 0) (nI 22))) + ((((h_rd Hf Wf t 0) &&& (h_rd Hf Wf t 1)) ^^^ ((h_rd Hf Wf t 0) &&& (h_rd Hf Wf t 2))) ^^^ ((h_rd Hf Wf t 1) &&& (h_rd Hf Wf t 2)))))), (2, .int (h_rd Hf Wf t 0)), (3, .int (h_rd Hf Wf t 1)), (4, .int (h_rd Hf Wf t 2)), (5, .int ((h_rd Hf Wf t 3) + (((((h_rd Hf Wf t 7) + (((h_r (h_rd Hf Wf t 4) (nI 6)) ^^^ (h_r (h_rd Hf Wf t 4) (nI 11))) ^^^ (h_r (h_rd Hf Wf t 4) (nI 25)))) + (((h_rd Hf Wf t 4) &&& (h_rd Hf Wf t 5)) ^^^ (((h_rd Hf Wf t 4) ^^^ (-1)) &&& (h_rd Hf Wf t 6)))) + (k_K t)) + (Wf t)))), (6, .int (h_rd Hf Wf t 4)), (7, .int (h_rd Hf Wf t 5)), (8, .int (h_rd Hf Wf t 6)), (13, .int ((((h_r (h_rd Hf Wf t 0) (nI 2)) ^^^ (h_r (h_rd Hf Wf t 0) (nI 13))) ^^^ (h_r (h_rd Hf Wf t 0) (nI 22))) + ((((h_rd Hf Wf t 0) &&& (h_rd Hf Wf t 1)) ^^^ ((h_rd Hf Wf t 0) &&& (h_rd Hf Wf t 2))) ^^^ ((h_rd Hf Wf t 1) &&& (h_rd Hf Wf t 2))))), (12, .int (((((h_rd Hf Wf t 7) + (((h_r (h_rd Hf Wf t 4) (nI 6)) ^^^ (h_r (h_rd Hf Wf t 4) (nI 11))) ^^^ (h_r (h_rd Hf Wf t 4) (nI 25)))) + (((h_rd Hf Wf t 4) &&& (h_rd Hf Wf t 5)) ^^^ (((h_rd Hf Wf t 4) ^^^ (-1)) &&& (h_rd Hf Wf t 6)))) + (k_K t)) + (Wf t))), (11, .int (((h_r (h_rd Hf Wf t 0) (nI 2)) ^^^ (h_r (h_rd Hf Wf t 0) (nI 13))) ^^^ (h_r (h_rd Hf Wf t 0) (nI 22)))), (10, .int (((h_r (h_rd Hf Wf t 4) (nI 6)) ^^^ (h_r (h_rd Hf Wf t 4) (nI 11))) ^^^ (h_r (h_rd Hf Wf t 4) (nI 25)))), (9, .int (nI t)), (0, .ref h0)]) E.1 E.2.1 d_Dg_mixWords_202 rfl hl (by decide) rfl (fun ls hl => ?_)
        refine x_inc E 1 (lv' := [(9, .int (nI (t + 1))), (1, .int ((((((h_rd Hf Wf t 7) + (((h_r (h_rd Hf Wf t 4) (nI 6)) ^^^ (h_r (h_rd Hf Wf t 4) (nI 11))) ^^^ (h_r (h_rd Hf Wf t 4) (nI 25)))) + (((h_rd Hf Wf t 4) &&& (h_rd Hf Wf t 5)) ^^^ (((h_rd Hf Wf t 4) ^^^ (-1)) &&& (h_rd Hf Wf t 6)))) + (k_K t)) + (Wf t)) + ((((h_r (h_rd Hf Wf t 0) (nI 2)) ^^^ (h_r (h_rd Hf Wf t 0) (nI 13))) ^^^ (h_r (h_rd Hf Wf t 0) (nI 22))) + ((((h_rd Hf Wf t 0) &&& (h_rd Hf Wf t 1)) ^^^ ((h_rd Hf Wf t 0) &&& (h_rd Hf Wf t 2))) ^^^ ((h_rd Hf Wf t 1) &&& (h_rd Hf Wf t 2)))))), (2, .int (h_rd Hf Wf t 0)), (3, .int (h_rd Hf Wf t 1)), (4, .int (h_rd Hf Wf t 2)), (5, .int ((h_rd Hf Wf t 3) + (((((h_rd Hf Wf t 7) + (((h_r (h_rd Hf Wf t 4) (nI 6)) ^^^ (h_r (h_rd Hf Wf t 4) (nI 11))) ^^^ (h_r (h_rd Hf Wf t 4) (nI 25)))) + (((h_rd Hf Wf t 4) &&& (h_rd Hf Wf t 5)) ^^^ (((h_rd Hf Wf t 4) ^^^ (-1)) &&& (h_rd Hf Wf t 6)))) + (k_K t)) + (Wf t)))), (6, .int (h_rd Hf Wf t 4)), (7, .int (h_rd Hf Wf t 5)), (8, .int (h_rd Hf Wf t 6)), (13, .int ((((h_r (h_rd Hf Wf t 0) (nI 2)) ^^^ (h_r (h_rd Hf Wf t 0) (nI 13))) ^^^ (h_r (h_rd Hf Wf t 0) (nI 22))) + ((((h_rd Hf Wf t 0) &&& (h_rd Hf Wf t 1)) ^^^ ((h_rd Hf Wf t 0) &&& (h_rd Hf Wf t 2))) ^^^ ((h_rd Hf Wf t 1) &&& (h_rd Hf Wf t 2))))), (12, .int (((((h_rd Hf Wf t 7) + (((h_r (h_rd Hf Wf t 4) (nI 6)) ^^^ (h_r (h_rd Hf Wf t 4) (nI 11))) ^^^ (h_r (h_rd Hf Wf t 4) (nI 25)))) + (((h_rd Hf Wf t 4) &&& (h_rd Hf Wf t 5)) ^^^ (((h_rd Hf Wf t 4) ^^^ (-1)) &&& (h_rd Hf Wf t 6)))) + (k_K t)) + (Wf t))), (11, .int (((h_r (h_rd Hf Wf t 0) (nI 2)) ^^^ (h_r (h_rd Hf Wf t 0) (nI 13))) ^^^ (h_r (h_rd Hf Wf t 0) (nI 22)))), (10, .int (((h_r (h_rd Hf Wf t 4) (nI 6)) ^^^ (h_r (h_rd Hf Wf t 4) (nI 11))) ^^^ (h_r (h_rd Hf Wf t 4) (nI 25)))), (0, .ref h0)]) d_Dg_mixWords_203 hl (k := 12) rfl rfl (by decide) rfl (fun ls hl => ?_)
        refine lv_goto (tgt := 66) E.1 E.2.1 d_Dg_mixWords_206 (by decide) ?_
        exact ih66  (t + 1) (by omega) (by omega) _ _ _ B (lv_sub hl [0, 1, 2, 3, 4, 5, 6, 7, 8, 13] rfl)
  exact hL66 (65) 0 (by omega) (by omega) _ _ _ B (lv_sub hl [0, 8, 7, 6, 5, 4, 3, 2, 1, 9] rfl)
set_option maxHeartbeats 4000000 in
set_option maxRecDepth 100000 in
theorem q_Dg_handOut (G : xG) (l : Launch) (h0 q1 q2 q3 : Nat) (iq ni at_ : Nat) (Hf : Nat → Int32) (gi : Nat → Nat) (ha : at_ + 32 ≤ ni) (hni : ni < 100000) : xMv G l y_Dg_handOut c_Dg_handOut 4 ({ frames := 0, cells := 0, slots := 0, locals := 0 }) [.ref h0, .ref iq, .int (nI at_)] [] [(h0, .inr (1, [.ref q1, .ref q2, .ref q3])), (q1, x_I G 8 Hf), (iq, x_N G ni gi)] Unit (fun _ => True) (fun u => [(h0, .inr (1, [.ref q1, .ref q2, .ref q3])), (q1, x_I G 8 Hf), (iq, x_N G ni (va_cpy (h_by Hf) gi 0 at_ 32))]) 0 0 := by
  refine xMv.by r_Dg (by decide +kernel) (Nat.le_of_ble_eq_true rfl) rfl ?_
  intro p e s m args below meth c A ls Q E hin B hro hl hret
  have hl : lv_has ls 4 [(0, .ref h0), (1, .ref iq), (2, .int (nI at_))] := hl
  refine lv_iconst (v := nI 0) E.1 E.2.1 d_Dg_handOut_0 (by decide) ?_
  refine lv_istore_n (lv' := [(3, .int (nI 0)), (0, .ref h0), (1, .ref iq), (2, .int (nI at_))]) E.1 E.2.1 d_Dg_handOut_1 rfl hl (by decide) rfl (fun ls hl => ?_)
  have hL2 : ∀ (kf : Nat) (i : Nat), 32 - i < kf → (i ≤ 32) → ∀ (H : Heap) (locs : List Loc) (ls : Array Slot), xB G A s H locs ([(h0, .inr (1, [.ref q1, .ref q2, .ref q3])), (q1, x_I G 8 Hf), (iq, x_N G ni (va_cpy (h_by Hf) gi 0 at_ i))]) → lv_has ls 4 [(3, .int (nI i)), (0, .ref h0), (1, .ref iq), (2, .int (nI at_))] → W p l e ({ frames := 0, cells := 0, slots := 0, locals := 0 }) s m args below meth c H locs 0 0 Q (F0 m 2 ls []) := by
    intro k2
    induction k2 with
    | zero =>
      intro i hk
      exact absurd hk (Nat.not_lt_zero _)
    | succ k2 ih2 =>
      intro i hk2 hi H locs ls B hl
      refine lv_iload_n E.1 E.2.1 d_Dg_handOut_2 rfl (lv_at hl 0 rfl) ?_
      refine lv_bipush (v := nI 32) E.1 E.2.1 d_Dg_handOut_3 (by decide) ?_
      refine x_ge (tgt := 41) E d_Dg_handOut_5 (by decide) (by omega) (by omega) (fun c1 => ?_) (fun c1 => ?_)
      · obtain rfl : i = 32 := by omega
        exact hret () _ _ _ _ B trivial d_Dg_handOut_41
      · refine lv_aload_n E.1 E.2.1 d_Dg_handOut_8 rfl (lv_at hl 2 rfl) ?_
        refine lv_iload_n E.1 E.2.1 d_Dg_handOut_9 rfl (lv_at hl 3 rfl) ?_
        refine lv_iload_n E.1 E.2.1 d_Dg_handOut_10 rfl (lv_at hl 0 rfl) ?_
        refine x_iadd E d_Dg_handOut_11 ?_
        refine lv_aload_n E.1 E.2.1 d_Dg_handOut_12 rfl (lv_at hl 1 rfl) ?_
        refine x_get E B 0 rfl k_Dg 0 (by decide) wd_83 rfl d_Dg_handOut_13 ?_
        refine lv_iload_n E.1 E.2.1 d_Dg_handOut_16 rfl (lv_at hl 0 rfl) ?_
        refine lv_iconst (v := nI 4) E.1 E.2.1 d_Dg_handOut_17 (by decide) ?_
        refine x_idiv E d_Dg_handOut_18 (by omega) (by decide) (by decide) ?_
        refine x_ald E B 1 rfl (i := i / 4) (by omega) (by decide) d_Dg_handOut_19 ?_
        refine lv_bipush (v := nI 24) E.1 E.2.1 d_Dg_handOut_20 (by decide) ?_
        refine lv_bipush (v := nI 8) E.1 E.2.1 d_Dg_handOut_22 (by decide) ?_
        refine lv_iload_n E.1 E.2.1 d_Dg_handOut_24 rfl (lv_at hl 0 rfl) ?_
        refine lv_iconst (v := nI 4) E.1 E.2.1 d_Dg_handOut_25 (by decide) ?_
        refine x_irem E d_Dg_handOut_26 (by omega) (by decide) (by decide) ?_
        refine x_imul E d_Dg_handOut_27 ?_
        refine x_isub E d_Dg_handOut_28 (by omega) ?_
        refine lv_iushr (v := b_us (Hf (i / 4)) (nI (24 - (8 * (i % 4))))) E.1 E.2.1 d_Dg_handOut_29 rfl ?_
        refine lv_sipush (v := nI 255) E.1 E.2.1 d_Dg_handOut_30 (by decide) ?_
        refine lv_iand E.1 E.2.1 d_Dg_handOut_33 ?_
        refine x_top (v' := nI (h_by Hf i)) (h_byE _ (by omega)) ?_
        refine x_astN E B 2 rfl (i := at_ + i) (v := h_by Hf i) (by omega) (by omega) d_Dg_handOut_34 (fun H locs B => ?_)
        have B : xB G A s _ _ ([(h0, .inr (1, [.ref q1, .ref q2, .ref q3])), (q1, x_I G 8 Hf), (iq, x_N G ni (va_up (va_cpy (h_by Hf) gi 0 at_ i) (at_ + i) (h_by Hf i)))]) := B
        have B := B.fn 2 rfl (nA (va_cpy (h_by Hf) gi 0 at_ (i + 1))) (cp_s rfl)
        have B : xB G A s _ _ ([(h0, .inr (1, [.ref q1, .ref q2, .ref q3])), (q1, x_I G 8 Hf), (iq, x_N G ni (va_cpy (h_by Hf) gi 0 at_ (i + 1)))]) := B
        refine x_inc E 1 (lv' := [(3, .int (nI (i + 1))), (0, .ref h0), (1, .ref iq), (2, .int (nI at_))]) d_Dg_handOut_35 hl (k := 0) rfl rfl (by decide) rfl (fun ls hl => ?_)
        refine lv_goto (tgt := 2) E.1 E.2.1 d_Dg_handOut_38 (by decide) ?_
        exact ih2  (i + 1) (by omega) (by omega) _ _ _ B (lv_sub hl [0, 1, 2, 3] rfl)
  have B := B.fn 2 rfl (nA (va_cpy (h_by Hf) gi 0 at_ 0)) (cp_z)
  have B : xB G A s _ _ ([(h0, .inr (1, [.ref q1, .ref q2, .ref q3])), (q1, x_I G 8 Hf), (iq, x_N G ni (va_cpy (h_by Hf) gi 0 at_ 0))]) := B
  exact hL2 (33) 0 (by omega) (by omega) _ _ _ B (lv_sub hl [0, 1, 2, 3] rfl)
set_option maxHeartbeats 4000000 in
set_option maxRecDepth 100000 in
theorem q_Dg_digest (G : xG) (l : Launch) (h0 q1 q2 q3 : Nat) (rq rn cnt : Nat) (f : Nat → Nat) (Hf w0 : Nat → Int32) (hc : cnt ≤ rn) (hn : rn < 100000) (hf : ∀ j, j < cnt → f j < 256) : xMv G l y_Dg_digest c_Dg_digest 5 ({ frames := 2, cells := 0, slots := 0, locals := 60 }) [.ref h0, .ref rq, .int (nI cnt)] [(rq, rn, nA f)] [(h0, .inr (1, [.ref q1, .ref q2, .ref q3])), (q1, x_I G 8 Hf), (q2, x_I G 64 w0)] Unit (fun _ => True) (fun u => [(h0, .inr (1, [.ref q1, .ref q2, .ref q3])), (q1, x_I G 8 (h_hs (h_P f cnt) ((cnt + 8) / 64 + 1))), (q2, x_I G 64 (h_ww w0 (h_P f cnt) ((cnt + 8) / 64 + 1)))]) 0 0 := by
  refine xMv.by r_Dg (by decide +kernel) (Nat.le_of_ble_eq_true rfl) rfl ?_
  intro p e s m args below meth c A ls Q E hin B hro hl hret
  have hl : lv_has ls 5 [(0, .ref h0), (1, .ref rq), (2, .int (nI cnt))] := hl
  have hR0 : x_R A s s.heap rq rn (nA f) := hro _ (List.mem_of_getElem? (i := 0) rfl)
  have ht : h_tot cnt = ((cnt + 8) / 64 + 1) * 64 := rfl
  refine x_gets E B B.2.2.2.2.1.2.1.1 wd_81 d_Dg_digest_0 ?_
  refine lv_iconst (v := nI 0) E.1 E.2.1 d_Dg_digest_3 (by decide) ?_
  refine lv_aload_n E.1 E.2.1 d_Dg_digest_4 rfl (lv_at hl 0 rfl) ?_
  refine x_get E B 0 rfl k_Dg 0 (by decide) wd_83 rfl d_Dg_digest_5 ?_
  refine lv_iconst (v := nI 0) E.1 E.2.1 d_Dg_digest_8 (by decide) ?_
  refine x_gets E B B.2.2.2.2.1.2.1.1 wd_81 d_Dg_digest_9 ?_
  refine x_tlen E B B.2.2.2.2.1.2.1.2 d_Dg_digest_12 ?_
  refine x_cpt E B wd_250 wd_217 wd_216 wd_41 B.2.2.2.2.1.2.1.2 1 (sp := 0) (dp := 0) (n := 8) rfl (by omega) (by omega) (by decide) (by decide) hl.1 (Nat.le_of_ble_eq_true rfl) (Nat.le_of_ble_eq_true rfl) d_Dg_digest_13 (fun H locs B => ?_)
  have B : xB G A s _ _ ([(h0, .inr (1, [.ref q1, .ref q2, .ref q3])), (q1, x_I G 8 (va_cpy k_H Hf 0 0 8)), (q2, x_I G 64 w0)]) := B
  have B := B.fn 1 rfl k_H (cp_0i)
  have B : xB G A s _ _ ([(h0, .inr (1, [.ref q1, .ref q2, .ref q3])), (q1, x_I G 8 k_H), (q2, x_I G 64 w0)]) := B
  refine lv_iload_n E.1 E.2.1 d_Dg_digest_16 rfl (lv_at hl 2 rfl) ?_
  refine lv_bipush (v := nI 8) E.1 E.2.1 d_Dg_digest_17 (by decide) ?_
  refine x_iadd E d_Dg_digest_19 ?_
  refine lv_bipush (v := nI 64) E.1 E.2.1 d_Dg_digest_20 (by decide) ?_
  refine x_idiv E d_Dg_digest_22 (by omega) (by decide) (by decide) ?_
  refine lv_iconst (v := nI 1) E.1 E.2.1 d_Dg_digest_23 (by decide) ?_
  refine x_iadd E d_Dg_digest_24 ?_
  refine lv_bipush (v := nI 64) E.1 E.2.1 d_Dg_digest_25 (by decide) ?_
  refine x_imul E d_Dg_digest_27 ?_
  refine x_top (show nI ((((cnt + 8) / 64) + 1) * 64) = nI (h_tot cnt) from congrArg nI (by exact rfl)) ?_
  refine lv_istore_n (lv' := [(3, .int (nI (h_tot cnt))), (0, .ref h0), (1, .ref rq), (2, .int (nI cnt))]) E.1 E.2.1 d_Dg_digest_28 rfl hl (by decide) rfl (fun ls hl => ?_)
  refine lv_iconst (v := nI 0) E.1 E.2.1 d_Dg_digest_29 (by decide) ?_
  refine lv_istore (lv' := [(4, .int (nI 0)), (3, .int (nI (h_tot cnt))), (0, .ref h0), (1, .ref rq), (2, .int (nI cnt))]) E.1 E.2.1 d_Dg_digest_30 hl (by decide) rfl (fun ls hl => ?_)
  have hL32 : ∀ (kf : Nat) (b : Nat), (cnt + 8) / 64 + 1 - b < kf → (b ≤ (cnt + 8) / 64 + 1) → ∀ (H : Heap) (locs : List Loc) (ls : Array Slot), xB G A s H locs ([(h0, .inr (1, [.ref q1, .ref q2, .ref q3])), (q1, x_I G 8 (h_hs (h_P f cnt) b)), (q2, x_I G 64 (h_ww w0 (h_P f cnt) b))]) → lv_has ls 5 [(4, .int (nI (64 * b))), (3, .int (nI (h_tot cnt))), (0, .ref h0), (1, .ref rq), (2, .int (nI cnt))] → W p l e ({ frames := 2, cells := 0, slots := 0, locals := 60 }) s m args below meth c H locs 0 0 Q (F0 m 32 ls []) := by
    intro k32
    induction k32 with
    | zero =>
      intro b hk
      exact absurd hk (Nat.not_lt_zero _)
    | succ k32 ih32 =>
      intro b hk32 hi H locs ls B hl
      refine lv_iload E.1 E.2.1 d_Dg_digest_32 (lv_at hl 0 rfl) ?_
      refine lv_iload_n E.1 E.2.1 d_Dg_digest_34 rfl (lv_at hl 1 rfl) ?_
      refine x_ge (tgt := 61) E d_Dg_digest_35 (by decide) (by omega) (by omega) (fun c1 => ?_) (fun c1 => ?_)
      · obtain rfl : b = (cnt + 8) / 64 + 1 := by omega
        exact hret () _ _ _ _ B trivial d_Dg_digest_61
      · refine lv_aload_n E.1 E.2.1 d_Dg_digest_38 rfl (lv_at hl 2 rfl) ?_
        refine lv_aload_n E.1 E.2.1 d_Dg_digest_39 rfl (lv_at hl 3 rfl) ?_
        refine lv_iload_n E.1 E.2.1 d_Dg_digest_40 rfl (lv_at hl 4 rfl) ?_
        refine lv_iload E.1 E.2.1 d_Dg_digest_41 (lv_at hl 0 rfl) ?_
        refine lv_iload_n E.1 E.2.1 d_Dg_digest_43 rfl (lv_at hl 1 rfl) ?_
        refine x_cv (ws' := (fun u => [(h0, .inr (1, [.ref q1, .ref q2, .ref q3])), (q1, x_I G 8 (h_hs (h_P f cnt) b)), (q2, x_I G 64 (mx 16 (h_w (h_P f cnt) (64 * b)) (h_ww w0 (h_P f cnt) b)))])) (wr := [(q1, x_I G 8 (h_hs (h_P f cnt) b))]) B (x_rV (rest := []) E B (q_Dg_takeWords G l h0 q1 q2 q3 rq rn cnt (64 * b) f (h_ww w0 (h_P f cnt) b) (hc) (hn) (by omega) (hf) _) (x_pre B [0, 2] rfl (by decide) (x_ro1 (x_ro_t B hR0 [0, 2] rfl))) 0 rfl k_Dg (gg_V wd_251 wd_253 wd_3 wd_37 wd_254) ⟨rfl, p_Dg_takeWords⟩ rfl rfl ⟨Nat.le_of_ble_eq_true rfl, Nat.le_of_ble_eq_true rfl⟩ rfl hl.1 rfl (Nat.le_of_ble_eq_true rfl) d_Dg_digest_44 ⟨Nat.le_of_ble_eq_true rfl, Nat.le_of_ble_eq_true rfl⟩) [0, 2] [1] [1, 0, 2] rfl rfl (by decide) (by decide) (by decide) (fun _ => rfl) (fun u44 H locs hw44 B => ?_)
        have B : xB G A s _ _ ([(h0, .inr (1, [.ref q1, .ref q2, .ref q3])), (q1, x_I G 8 (h_hs (h_P f cnt) b)), (q2, x_I G 64 (mx 16 (h_w (h_P f cnt) (64 * b)) (h_ww w0 (h_P f cnt) b)))]) := B
        refine lv_aload_n E.1 E.2.1 d_Dg_digest_47 rfl (lv_at hl 2 rfl) ?_
        refine x_cv (ws' := (fun u => [(h0, .inr (1, [.ref q1, .ref q2, .ref q3])), (q1, x_I G 8 (h_hs (h_P f cnt) b)), (q2, x_I G 64 (h_w (h_P f cnt) (64 * b)))])) (wr := [(q1, x_I G 8 (h_hs (h_P f cnt) b))]) B (x_rV (rest := []) E B (q_Dg_spreadWords G l h0 q1 q2 q3 (64 * b) (h_P f cnt) (h_ww w0 (h_P f cnt) b)  _) (x_pre B [0, 2] rfl (by decide) x_ro0) 0 rfl k_Dg (gg_V wd_259 wd_261 wd_4 wd_37 wd_262) ⟨rfl, p_Dg_spreadWords⟩ rfl rfl ⟨Nat.le_of_ble_eq_true rfl, Nat.le_of_ble_eq_true rfl⟩ rfl hl.1 rfl (Nat.le_of_ble_eq_true rfl) d_Dg_digest_48 ⟨Nat.le_of_ble_eq_true rfl, Nat.le_of_ble_eq_true rfl⟩) [0, 2] [1] [1, 0, 2] rfl rfl (by decide) (by decide) (by decide) (fun _ => rfl) (fun u48 H locs hw48 B => ?_)
        have B : xB G A s _ _ ([(h0, .inr (1, [.ref q1, .ref q2, .ref q3])), (q1, x_I G 8 (h_hs (h_P f cnt) b)), (q2, x_I G 64 (h_w (h_P f cnt) (64 * b)))]) := B
        refine lv_aload_n E.1 E.2.1 d_Dg_digest_51 rfl (lv_at hl 2 rfl) ?_
        refine x_cv (ws' := (fun u => [(h0, .inr (1, [.ref q1, .ref q2, .ref q3])), (q1, x_I G 8 (h_cp (h_hs (h_P f cnt) b) (h_w (h_P f cnt) (64 * b)))), (q2, x_I G 64 (h_w (h_P f cnt) (64 * b)))])) (wr := []) B (x_rV (rest := []) E B (q_Dg_mixWords G l h0 q1 q2 q3 (h_hs (h_P f cnt) b) (h_w (h_P f cnt) (64 * b))  _) (x_pre B [0, 1, 2] rfl (by decide) x_ro0) 0 rfl k_Dg (gg_V wd_266 wd_268 wd_5 wd_37 wd_269) ⟨rfl, p_Dg_mixWords⟩ rfl rfl ⟨Nat.le_of_ble_eq_true rfl, Nat.le_of_ble_eq_true rfl⟩ rfl hl.1 rfl (Nat.le_of_ble_eq_true rfl) d_Dg_digest_52 ⟨Nat.le_of_ble_eq_true rfl, Nat.le_of_ble_eq_true rfl⟩) [0, 1, 2] [] [0, 1, 2] rfl rfl (by decide) (by decide) (by decide) (fun _ => rfl) (fun u52 H locs hw52 B => ?_)
        have B : xB G A s _ _ ([(h0, .inr (1, [.ref q1, .ref q2, .ref q3])), (q1, x_I G 8 (h_cp (h_hs (h_P f cnt) b) (h_w (h_P f cnt) (64 * b)))), (q2, x_I G 64 (h_w (h_P f cnt) (64 * b)))]) := B
        refine x_inc E 64 (lv' := [(4, .int (nI ((64 * b) + 64))), (3, .int (nI (h_tot cnt))), (0, .ref h0), (1, .ref rq), (2, .int (nI cnt))]) d_Dg_digest_55 hl (k := 0) rfl rfl (by decide) rfl (fun ls hl => ?_)
        refine lv_goto (tgt := 32) E.1 E.2.1 d_Dg_digest_58 (by decide) ?_
        exact ih32  (b + 1) (by omega) (by omega) _ _ _ B (lv_sub hl [0, 1, 2, 3, 4] rfl)
  exact hL32 ((cnt + 8) / 64 + 2) 0 (by omega) (by omega) _ _ _ B (lv_sub hl [0, 1, 2, 3, 4] rfl)
set_option maxHeartbeats 4000000 in
set_option maxRecDepth 100000 in
theorem q_Dg_twice (G : xG) (l : Launch) (h0 q1 q2 q3 : Nat) (rq rn cnt iq ni at_ : Nat) (f go gi : Nat → Nat) (Hf w0 : Nat → Int32) (hc : cnt ≤ rn) (hn : rn < 100000) (hf : ∀ j, j < cnt → f j < 256) (ha : at_ + 32 ≤ ni) (hni : ni < 100000) : xMv G l y_Dg_twice c_Dg_twice 5 ({ frames := 3, cells := 0, slots := 0, locals := 84 }) [.ref h0, .ref rq, .int (nI cnt), .ref iq, .int (nI at_)] [(rq, rn, nA f)] [(h0, .inr (1, [.ref q1, .ref q2, .ref q3])), (q1, x_I G 8 Hf), (q2, x_I G 64 w0), (q3, x_N G 32 go), (iq, x_N G ni gi)] ((Nat → Int32) × (Nat → Int32)) (fun _ => True) (fun u => [(h0, .inr (1, [.ref q1, .ref q2, .ref q3])), (q1, x_I G 8 u.1), (q2, x_I G 64 u.2), (q3, x_N G 32 (h_dg f cnt)), (iq, x_N G ni (va_cpy (h_tw f cnt) gi 0 at_ 32))]) 0 0 := by
  refine xMv.by r_Dg (by decide +kernel) (Nat.le_of_ble_eq_true rfl) rfl ?_
  intro p e s m args below meth c A ls Q E hin B hro hl hret
  have hl : lv_has ls 5 [(0, .ref h0), (1, .ref rq), (2, .int (nI cnt)), (3, .ref iq), (4, .int (nI at_))] := hl
  have hR0 : x_R A s s.heap rq rn (nA f) := hro _ (List.mem_of_getElem? (i := 0) rfl)
  refine lv_aload_n E.1 E.2.1 d_Dg_twice_0 rfl (lv_at hl 0 rfl) ?_
  refine lv_aload_n E.1 E.2.1 d_Dg_twice_1 rfl (lv_at hl 1 rfl) ?_
  refine lv_iload_n E.1 E.2.1 d_Dg_twice_2 rfl (lv_at hl 2 rfl) ?_
  refine x_cv (ws' := (fun u => [(h0, .inr (1, [.ref q1, .ref q2, .ref q3])), (q1, x_I G 8 (h_hs (h_P f cnt) ((cnt + 8) / 64 + 1))), (q2, x_I G 64 (h_ww w0 (h_P f cnt) ((cnt + 8) / 64 + 1))), (q3, x_N G 32 go), (iq, x_N G ni gi)])) (wr := [(q3, x_N G 32 go), (iq, x_N G ni gi)]) B (x_rV (rest := []) E B (q_Dg_digest G l h0 q1 q2 q3 rq rn cnt f Hf w0 (hc) (hn) (hf) _) (x_pre B [0, 1, 2] rfl (by decide) (x_ro1 (x_ro_t B hR0 [0, 1, 2] rfl))) 0 rfl k_Dg (gg_V wd_246 wd_248 wd_2 wd_37 wd_249) ⟨rfl, p_Dg_digest⟩ rfl rfl ⟨Nat.le_of_ble_eq_true rfl, Nat.le_of_ble_eq_true rfl⟩ rfl hl.1 rfl (Nat.le_of_ble_eq_true rfl) d_Dg_twice_3 ⟨Nat.le_of_ble_eq_true rfl, Nat.le_of_ble_eq_true rfl⟩) [0, 1, 2] [3, 4] [2, 3, 4, 0, 1] rfl rfl (by decide) (by decide) (by decide) (fun _ => rfl) (fun u3 H locs hw3 B => ?_)
  have B : xB G A s _ _ ([(h0, .inr (1, [.ref q1, .ref q2, .ref q3])), (q1, x_I G 8 (h_hs (h_P f cnt) ((cnt + 8) / 64 + 1))), (q2, x_I G 64 (h_ww w0 (h_P f cnt) ((cnt + 8) / 64 + 1))), (q3, x_N G 32 go), (iq, x_N G ni gi)]) := B
  refine lv_aload_n E.1 E.2.1 d_Dg_twice_6 rfl (lv_at hl 0 rfl) ?_
  refine lv_aload_n E.1 E.2.1 d_Dg_twice_7 rfl (lv_at hl 0 rfl) ?_
  refine x_get E B 0 rfl k_Dg 2 (by decide) wd_85 rfl d_Dg_twice_8 ?_
  refine lv_iconst (v := nI 0) E.1 E.2.1 d_Dg_twice_11 (by decide) ?_
  refine x_cv (ws' := (fun u => [(h0, .inr (1, [.ref q1, .ref q2, .ref q3])), (q1, x_I G 8 (h_hs (h_P f cnt) ((cnt + 8) / 64 + 1))), (q2, x_I G 64 (h_ww w0 (h_P f cnt) ((cnt + 8) / 64 + 1))), (q3, x_N G 32 (va_cpy (h_by (h_hs (h_P f cnt) ((cnt + 8) / 64 + 1))) go 0 0 32)), (iq, x_N G ni gi)])) (wr := [(q2, x_I G 64 (h_ww w0 (h_P f cnt) ((cnt + 8) / 64 + 1))), (iq, x_N G ni gi)]) B (x_rV (rest := []) E B (q_Dg_handOut G l h0 q1 q2 q3 q3 32 0 (h_hs (h_P f cnt) ((cnt + 8) / 64 + 1)) go (by omega) (by omega) _) (x_pre B [0, 1, 3] rfl (by decide) x_ro0) 0 rfl k_Dg (gg_V wd_272 wd_274 wd_6 wd_37 wd_275) ⟨rfl, p_Dg_handOut⟩ rfl rfl ⟨Nat.le_of_ble_eq_true rfl, Nat.le_of_ble_eq_true rfl⟩ rfl hl.1 rfl (Nat.le_of_ble_eq_true rfl) d_Dg_twice_12 ⟨Nat.le_of_ble_eq_true rfl, Nat.le_of_ble_eq_true rfl⟩) [0, 1, 3] [2, 4] [2, 3, 0, 4, 1] rfl rfl (by decide) (by decide) (by decide) (fun _ => rfl) (fun u12 H locs hw12 B => ?_)
  have B : xB G A s _ _ ([(h0, .inr (1, [.ref q1, .ref q2, .ref q3])), (q1, x_I G 8 (h_hs (h_P f cnt) ((cnt + 8) / 64 + 1))), (q2, x_I G 64 (h_ww w0 (h_P f cnt) ((cnt + 8) / 64 + 1))), (q3, x_N G 32 (va_cpy (h_by (h_hs (h_P f cnt) ((cnt + 8) / 64 + 1))) go 0 0 32)), (iq, x_N G ni gi)]) := B
  have B := B.fn 3 rfl (nA (h_dg f cnt)) (cp_0)
  have B : xB G A s _ _ ([(h0, .inr (1, [.ref q1, .ref q2, .ref q3])), (q1, x_I G 8 (h_hs (h_P f cnt) ((cnt + 8) / 64 + 1))), (q2, x_I G 64 (h_ww w0 (h_P f cnt) ((cnt + 8) / 64 + 1))), (q3, x_N G 32 (h_dg f cnt)), (iq, x_N G ni gi)]) := B
  refine lv_aload_n E.1 E.2.1 d_Dg_twice_15 rfl (lv_at hl 0 rfl) ?_
  refine lv_aload_n E.1 E.2.1 d_Dg_twice_16 rfl (lv_at hl 0 rfl) ?_
  refine x_get E B 0 rfl k_Dg 2 (by decide) wd_85 rfl d_Dg_twice_17 ?_
  refine lv_bipush (v := nI 32) E.1 E.2.1 d_Dg_twice_20 (by decide) ?_
  refine x_cv (ws' := (fun u => [(h0, .inr (1, [.ref q1, .ref q2, .ref q3])), (q1, x_I G 8 (h_hs (h_P (h_dg f cnt) 32) ((32 + 8) / 64 + 1))), (q2, x_I G 64 (h_ww (h_ww w0 (h_P f cnt) ((cnt + 8) / 64 + 1)) (h_P (h_dg f cnt) 32) ((32 + 8) / 64 + 1))), (q3, x_N G 32 (h_dg f cnt)), (iq, x_N G ni gi)])) (wr := [(q3, x_N G 32 (h_dg f cnt)), (iq, x_N G ni gi)]) B (x_rV (rest := []) E B (q_Dg_digest G l h0 q1 q2 q3 q3 32 32 (h_dg f cnt) (h_hs (h_P f cnt) ((cnt + 8) / 64 + 1)) (h_ww w0 (h_P f cnt) ((cnt + 8) / 64 + 1)) (by omega) (by omega) (fun j _ => h_dg_lt _ _ j) _) (x_pre B [0, 1, 2] rfl (by decide) (x_ro1 (x_ro_w B 3 rfl [0, 1, 2] rfl (by decide)))) 0 rfl k_Dg (gg_V wd_246 wd_248 wd_2 wd_37 wd_249) ⟨rfl, p_Dg_digest⟩ rfl rfl ⟨Nat.le_of_ble_eq_true rfl, Nat.le_of_ble_eq_true rfl⟩ rfl hl.1 rfl (Nat.le_of_ble_eq_true rfl) d_Dg_twice_22 ⟨Nat.le_of_ble_eq_true rfl, Nat.le_of_ble_eq_true rfl⟩) [0, 1, 2] [3, 4] [2, 3, 4, 0, 1] rfl rfl (by decide) (by decide) (by decide) (fun _ => rfl) (fun u22 H locs hw22 B => ?_)
  have B : xB G A s _ _ ([(h0, .inr (1, [.ref q1, .ref q2, .ref q3])), (q1, x_I G 8 (h_hs (h_P (h_dg f cnt) 32) ((32 + 8) / 64 + 1))), (q2, x_I G 64 (h_ww (h_ww w0 (h_P f cnt) ((cnt + 8) / 64 + 1)) (h_P (h_dg f cnt) 32) ((32 + 8) / 64 + 1))), (q3, x_N G 32 (h_dg f cnt)), (iq, x_N G ni gi)]) := B
  refine lv_aload_n E.1 E.2.1 d_Dg_twice_25 rfl (lv_at hl 0 rfl) ?_
  refine lv_aload_n E.1 E.2.1 d_Dg_twice_26 rfl (lv_at hl 3 rfl) ?_
  refine lv_iload E.1 E.2.1 d_Dg_twice_27 (lv_at hl 4 rfl) ?_
  refine x_cv (ws' := (fun u => [(h0, .inr (1, [.ref q1, .ref q2, .ref q3])), (q1, x_I G 8 (h_hs (h_P (h_dg f cnt) 32) ((32 + 8) / 64 + 1))), (q2, x_I G 64 (h_ww (h_ww w0 (h_P f cnt) ((cnt + 8) / 64 + 1)) (h_P (h_dg f cnt) 32) ((32 + 8) / 64 + 1))), (q3, x_N G 32 (h_dg f cnt)), (iq, x_N G ni (va_cpy (h_by (h_hs (h_P (h_dg f cnt) 32) ((32 + 8) / 64 + 1))) gi 0 at_ 32))])) (wr := [(q2, x_I G 64 (h_ww (h_ww w0 (h_P f cnt) ((cnt + 8) / 64 + 1)) (h_P (h_dg f cnt) 32) ((32 + 8) / 64 + 1))), (q3, x_N G 32 (h_dg f cnt))]) B (x_rV (rest := []) E B (q_Dg_handOut G l h0 q1 q2 q3 iq ni at_ (h_hs (h_P (h_dg f cnt) 32) ((32 + 8) / 64 + 1)) gi (by omega) (by omega) _) (x_pre B [0, 1, 4] rfl (by decide) x_ro0) 0 rfl k_Dg (gg_V wd_272 wd_274 wd_6 wd_37 wd_275) ⟨rfl, p_Dg_handOut⟩ rfl rfl ⟨Nat.le_of_ble_eq_true rfl, Nat.le_of_ble_eq_true rfl⟩ rfl hl.1 rfl (Nat.le_of_ble_eq_true rfl) d_Dg_twice_29 ⟨Nat.le_of_ble_eq_true rfl, Nat.le_of_ble_eq_true rfl⟩) [0, 1, 4] [2, 3] [2, 3, 0, 1, 4] rfl rfl (by decide) (by decide) (by decide) (fun _ => rfl) (fun u29 H locs hw29 B => ?_)
  have B : xB G A s _ _ ([(h0, .inr (1, [.ref q1, .ref q2, .ref q3])), (q1, x_I G 8 (h_hs (h_P (h_dg f cnt) 32) ((32 + 8) / 64 + 1))), (q2, x_I G 64 (h_ww (h_ww w0 (h_P f cnt) ((cnt + 8) / 64 + 1)) (h_P (h_dg f cnt) 32) ((32 + 8) / 64 + 1))), (q3, x_N G 32 (h_dg f cnt)), (iq, x_N G ni (va_cpy (h_by (h_hs (h_P (h_dg f cnt) 32) ((32 + 8) / 64 + 1))) gi 0 at_ 32))]) := B
  exact hret (_, _) _ _ _ _ B trivial d_Dg_twice_32
set_option maxHeartbeats 4000000 in
set_option maxRecDepth 100000 in
theorem q_Dg_new (G : xG) (l : Launch) (h0 : Nat)  : xMv G l y_Dg_new c_Dg_new 1 ({ frames := 1, cells := 3, slots := 104, locals := 20 }) [.ref h0] [] [(h0, .inr (1, [.null, .null, .null]))] (Nat × Nat × Nat) (fun _ => True) (fun u => [(h0, .inr (1, [.ref u.1, .ref u.2.1, .ref u.2.2])), (u.1, x_N G 8 (fun _ => 0)), (u.2.1, x_N G 64 (fun _ => 0)), (u.2.2, x_N G 32 (fun _ => 0))]) 3 104 := by
  refine xMv.by r_Dg (by decide +kernel) (Nat.le_of_ble_eq_true rfl) rfl ?_
  intro p e s m args below meth c A ls Q E hin B hro hl hret
  have hl : lv_has ls 1 [(0, .ref h0)] := hl
  refine lv_aload_n E.1 E.2.1 d_Dg_new_0 rfl (lv_at hl 0 rfl) ?_
  refine x_oi E wd_80 wd_49 wd_50 hl.1 d_Dg_new_1 (Nat.le_of_ble_eq_true rfl) (Nat.le_of_ble_eq_true rfl) ?_
  refine lv_aload_n E.1 E.2.1 d_Dg_new_4 rfl (lv_at hl 0 rfl) ?_
  refine x_gets E B B.2.2.2.2.1.2.1.1 wd_81 d_Dg_new_5 ?_
  refine x_tlen E B B.2.2.2.2.1.2.1.2 d_Dg_new_8 ?_
  refine x_newa E B wd_74 (n := 8) (by decide) (Nat.le_of_ble_eq_true rfl) (Nat.le_of_ble_eq_true rfl) d_Dg_new_9 (fun q1 H B => ?_)
  have B : xB G A s _ _ ([(h0, .inr (1, [.null, .null, .null])), (q1, x_N G 8 (fun _ => 0))]) := B
  refine x_putF E hin B 0 rfl k_Dg 0 (by decide) wd_83 rfl rfl rfl rfl (Nat.le_of_ble_eq_true rfl) d_Dg_new_11 (fun H locs B => ?_)
  have B : xB G A s _ _ ([(h0, .inr (1, [.ref q1, .null, .null])), (q1, x_N G 8 (fun _ => 0))]) := B
  refine lv_aload_n E.1 E.2.1 d_Dg_new_14 rfl (lv_at hl 0 rfl) ?_
  refine lv_bipush (v := nI 64) E.1 E.2.1 d_Dg_new_15 (by decide) ?_
  refine x_newa E B wd_74 (n := 64) (by decide) (Nat.le_of_ble_eq_true rfl) (Nat.le_of_ble_eq_true rfl) d_Dg_new_17 (fun q2 H B => ?_)
  have B : xB G A s _ _ ([(h0, .inr (1, [.ref q1, .null, .null])), (q1, x_N G 8 (fun _ => 0)), (q2, x_N G 64 (fun _ => 0))]) := B
  refine x_putF E hin B 0 rfl k_Dg 1 (by decide) wd_84 rfl rfl rfl rfl (Nat.le_of_ble_eq_true rfl) d_Dg_new_19 (fun H locs B => ?_)
  have B : xB G A s _ _ ([(h0, .inr (1, [.ref q1, .ref q2, .null])), (q1, x_N G 8 (fun _ => 0)), (q2, x_N G 64 (fun _ => 0))]) := B
  refine lv_aload_n E.1 E.2.1 d_Dg_new_22 rfl (lv_at hl 0 rfl) ?_
  refine lv_bipush (v := nI 32) E.1 E.2.1 d_Dg_new_23 (by decide) ?_
  refine x_newa E B wd_74 (n := 32) (by decide) (Nat.le_of_ble_eq_true rfl) (Nat.le_of_ble_eq_true rfl) d_Dg_new_25 (fun q3 H B => ?_)
  have B : xB G A s _ _ ([(h0, .inr (1, [.ref q1, .ref q2, .null])), (q1, x_N G 8 (fun _ => 0)), (q2, x_N G 64 (fun _ => 0)), (q3, x_N G 32 (fun _ => 0))]) := B
  refine x_putF E hin B 0 rfl k_Dg 2 (by decide) wd_85 rfl rfl rfl rfl (Nat.le_of_ble_eq_true rfl) d_Dg_new_27 (fun H locs B => ?_)
  have B : xB G A s _ _ ([(h0, .inr (1, [.ref q1, .ref q2, .ref q3])), (q1, x_N G 8 (fun _ => 0)), (q2, x_N G 64 (fun _ => 0)), (q3, x_N G 32 (fun _ => 0))]) := B
  exact hret (q1, q2, q3) _ _ _ _ B trivial d_Dg_new_30
end
section
set_option maxHeartbeats 4000000 in
set_option maxRecDepth 100000 in
theorem q_Dk_new (G : xG) (l : Launch) (h0 : Nat)  : xMv G l y_Dk_new c_Dk_new 1 ({ frames := 1, cells := 1, slots := 129, locals := 20 }) [.ref h0] [] [(h0, .inr (2, [.null, .int (nI 0), .int (nI 0)]))] Nat (fun _ => True) (fun u => [(h0, .inr (2, [.ref u, .int (nI 0), .int (nI 0)])), (u, x_N G 129 (fun _ => 0))]) 1 129 := by
  refine xMv.by r_Dk (by decide +kernel) (Nat.le_of_ble_eq_true rfl) rfl ?_
  intro p e s m args below meth c A ls Q E hin B hro hl hret
  have hl : lv_has ls 1 [(0, .ref h0)] := hl
  refine lv_aload_n E.1 E.2.1 d_Dk_new_0 rfl (lv_at hl 0 rfl) ?_
  refine x_oi E wd_151 wd_49 wd_50 hl.1 d_Dk_new_1 (Nat.le_of_ble_eq_true rfl) (Nat.le_of_ble_eq_true rfl) ?_
  refine lv_aload_n E.1 E.2.1 d_Dk_new_4 rfl (lv_at hl 0 rfl) ?_
  refine lv_sipush (v := nI 129) E.1 E.2.1 d_Dk_new_5 (by decide) ?_
  refine x_newa E B wd_74 (n := 129) (by decide) (Nat.le_of_ble_eq_true rfl) (Nat.le_of_ble_eq_true rfl) d_Dk_new_8 (fun q1 H B => ?_)
  have B : xB G A s _ _ ([(h0, .inr (2, [.null, .int (nI 0), .int (nI 0)])), (q1, x_N G 129 (fun _ => 0))]) := B
  refine x_putF E hin B 0 rfl k_Dk 0 (by decide) wd_152 rfl rfl rfl rfl (Nat.le_of_ble_eq_true rfl) d_Dk_new_10 (fun H locs B => ?_)
  have B : xB G A s _ _ ([(h0, .inr (2, [.ref q1, .int (nI 0), .int (nI 0)])), (q1, x_N G 129 (fun _ => 0))]) := B
  refine lv_aload_n E.1 E.2.1 d_Dk_new_13 rfl (lv_at hl 0 rfl) ?_
  refine lv_iconst (v := nI 0) E.1 E.2.1 d_Dk_new_14 (by decide) ?_
  refine x_put E B 0 rfl k_Dk 1 (by decide) wd_154 rfl rfl rfl (Nat.le_of_ble_eq_true rfl) d_Dk_new_15 (fun H locs B => ?_)
  have B : xB G A s _ _ ([(h0, .inr (2, [.ref q1, .int (nI 0), .int (nI 0)])), (q1, x_N G 129 (fun _ => 0))]) := B
  refine lv_aload_n E.1 E.2.1 d_Dk_new_18 rfl (lv_at hl 0 rfl) ?_
  refine lv_iconst (v := nI 0) E.1 E.2.1 d_Dk_new_19 (by decide) ?_
  refine x_put E B 0 rfl k_Dk 2 (by decide) wd_156 rfl rfl rfl (Nat.le_of_ble_eq_true rfl) d_Dk_new_20 (fun H locs B => ?_)
  have B : xB G A s _ _ ([(h0, .inr (2, [.ref q1, .int (nI 0), .int (nI 0)])), (q1, x_N G 129 (fun _ => 0))]) := B
  exact hret q1 _ _ _ _ B trivial d_Dk_new_23
set_option maxHeartbeats 4000000 in
set_option maxRecDepth 100000 in
theorem q_Dk_tellCrash (G : xG) (l : Launch) (h0 bq : Nat) (wr tc x : Int32)  : xMv G l y_Dk_tellCrash c_Dk_tellCrash 2 ({ frames := 0, cells := 0, slots := 0, locals := 0 }) [.ref h0, .int x] [] [(h0, .inr (2, [.ref bq, .int wr, .int tc]))] Unit (fun _ => True) (fun u => [(h0, .inr (2, [.ref bq, .int wr, .int (d_tc x)]))]) 0 0 := by
  refine xMv.by r_Dk (by decide +kernel) (Nat.le_of_ble_eq_true rfl) rfl ?_
  intro p e s m args below meth c A ls Q E hin B hro hl hret
  have hl : lv_has ls 2 [(0, .ref h0), (1, .int x)] := hl
  refine lv_aload_n E.1 E.2.1 d_Dk_tellCrash_0 rfl (lv_at hl 0 rfl) ?_
  refine lv_iload_n E.1 E.2.1 d_Dk_tellCrash_1 rfl (lv_at hl 1 rfl) ?_
  refine lv_iconst (v := nI 1) E.1 E.2.1 d_Dk_tellCrash_2 (by decide) ?_
  refine lv_icmp_ge (tgt := 10) E.1 E.2.1 d_Dk_tellCrash_3 (by decide) (fun hc => ?_) (fun hc => ?_)
  · refine lv_iload_n E.1 E.2.1 d_Dk_tellCrash_10 rfl (lv_at hl 1 rfl) ?_
    refine x_top (v' := (d_tc x)) (by unfold d_tc; first | rw [if_pos hc] | rw [if_neg hc]) ?_
    refine x_put E B 0 rfl k_Dk 2 (by decide) wd_156 rfl rfl rfl (Nat.le_of_ble_eq_true rfl) d_Dk_tellCrash_11 (fun H locs B => ?_)
    have B : xB G A s _ _ ([(h0, .inr (2, [.ref bq, .int wr, .int (d_tc x)]))]) := B
    exact hret () _ _ _ _ B trivial d_Dk_tellCrash_14
  · refine lv_iconst (v := nI 0) E.1 E.2.1 d_Dk_tellCrash_6 (by decide) ?_
    refine lv_goto (tgt := 11) E.1 E.2.1 d_Dk_tellCrash_7 (by decide) ?_
    refine x_top (v' := (d_tc x)) (by unfold d_tc; first | rw [if_pos hc] | rw [if_neg hc]) ?_
    refine x_put E B 0 rfl k_Dk 2 (by decide) wd_156 rfl rfl rfl (Nat.le_of_ble_eq_true rfl) d_Dk_tellCrash_11 (fun H locs B => ?_)
    have B : xB G A s _ _ ([(h0, .inr (2, [.ref bq, .int wr, .int (d_tc x)]))]) := B
    exact hret () _ _ _ _ B trivial d_Dk_tellCrash_14
set_option maxHeartbeats 4000000 in
set_option maxRecDepth 100000 in
theorem q_Dk_seedPlace (G : xG) (l : Launch) (h0 bq : Nat) (wr tc : Int32) (dk : Nat → Nat) (hd : g_bt 129 dk) : xMr G l y_Dk_seedPlace c_Dk_seedPlace 1 .int ({ frames := 0, cells := 0, slots := 0, locals := 0 }) [.ref h0] [] [(h0, .inr (2, [.ref bq, .int wr, .int tc])), (bq, x_N G 129 dk)] (nI (d_pl dk)) := by
  refine xMr.by r_Dk (by decide +kernel) (Nat.le_of_ble_eq_true rfl) rfl ?_
  intro p e s m args below meth c A ls Q E B hro hl hret
  have hl : lv_has ls 1 [(0, .ref h0)] := hl
  have hd0 := hd 0 (by decide)
  refine lv_aload_n E.1 E.2.1 d_Dk_seedPlace_0 rfl (lv_at hl 0 rfl) ?_
  refine x_get E B 0 rfl k_Dk 0 (by decide) wd_152 rfl d_Dk_seedPlace_1 ?_
  refine lv_iconst (v := nI 0) E.1 E.2.1 d_Dk_seedPlace_4 (by decide) ?_
  refine x_aldN E B 1 rfl (i := 0) (by omega) (by decide) d_Dk_seedPlace_5 ?_
  by_cases h1 : dk 0 = 1
  · refine lv_lookup (tgt := 32) E.1 E.2.1 d_Dk_seedPlace_6 (by decide) (off := 26) (by rw [h1]; decide) (by decide) ?_
    refine lv_iconst (v := nI 1) E.1 E.2.1 d_Dk_seedPlace_32 (by decide) ?_
    exact hret _ _ _ (by unfold d_pl; rw [if_pos h1]) d_Dk_seedPlace_33
  · by_cases h2 : dk 0 = 2
    · refine lv_lookup (tgt := 34) E.1 E.2.1 d_Dk_seedPlace_6 (by decide) (off := 28) (by rw [h2]; decide) (by decide) ?_
      refine lv_bipush (v := nI 65) E.1 E.2.1 d_Dk_seedPlace_34 (by decide) ?_
      exact hret _ _ _ (by unfold d_pl; rw [if_neg h1, if_pos h2]) d_Dk_seedPlace_36
    · refine lv_lookup (tgt := 37) E.1 E.2.1 d_Dk_seedPlace_6 (by decide) (off := 31) (by rw [lv_osw (k := nI 1) (fun q => h1 ((nI_eq (by omega) (by decide)).mp q)) (by decide), lv_osw (k := nI 2) (fun q => h2 ((nI_eq (by omega) (by decide)).mp q)) (by decide)]; rfl) (by decide) ?_
      refine lv_iconst (v := nI 0) E.1 E.2.1 d_Dk_seedPlace_37 (by decide) ?_
      exact hret _ _ _ (by unfold d_pl; rw [if_neg h1, if_neg h2]) d_Dk_seedPlace_38
set_option maxHeartbeats 4000000 in
set_option maxRecDepth 100000 in
theorem q_Dk_write_n (G : xG) (l : Launch) (h0 bq : Nat) (wr tc : Int32) (i b : Nat) (dk : Nat → Nat) (ht : tc = nI 1) : xMi G l y_Dk_write c_Dk_write 3 .boolean ({ frames := 0, cells := 0, slots := 0, locals := 0 }) [.ref h0, .int (nI i), .int (nI b)] [] [(h0, .inr (2, [.ref bq, .int wr, .int tc])), (bq, x_N G 129 dk)] Unit (fun r _ => r = nI 0) (fun u => [(h0, .inr (2, [.ref bq, .int wr, .int (nI 0)])), (bq, x_N G 129 dk)]) 0 0 := by
  refine xMz.by r_Dk (by decide +kernel) (Nat.le_of_ble_eq_true rfl) rfl ?_
  intro p e s m args below meth c A ls Q E B hro hl hret
  have hl : lv_has ls 3 [(0, .ref h0), (1, .int (nI i)), (2, .int (nI b))] := hl
  refine lv_aload_n E.1 E.2.1 d_Dk_write_0 rfl (lv_at hl 0 rfl) ?_
  refine x_get E B 0 rfl k_Dk 2 (by decide) wd_156 rfl d_Dk_write_1 ?_
  refine lv_iconst (v := nI 1) E.1 E.2.1 d_Dk_write_4 (by decide) ?_
  refine lv_icmp_ne (tgt := 15) E.1 E.2.1 d_Dk_write_5 (by decide) (fun hc => ?_) (fun hc => ?_)
  · exfalso; exact hc ht
  · refine lv_aload_n E.1 E.2.1 d_Dk_write_8 rfl (lv_at hl 0 rfl) ?_
    refine lv_iconst (v := nI 0) E.1 E.2.1 d_Dk_write_9 (by decide) ?_
    refine x_put E B 0 rfl k_Dk 2 (by decide) wd_156 rfl rfl rfl (Nat.le_of_ble_eq_true rfl) d_Dk_write_10 (fun H locs B => ?_)
    have B : xB G A s _ _ ([(h0, .inr (2, [.ref bq, .int wr, .int (nI 0)])), (bq, x_N G 129 dk)]) := B
    refine lv_iconst (v := nI 0) E.1 E.2.1 d_Dk_write_13 (by decide) ?_
    exact hret _ () _ _ _ _ B (rfl) rfl d_Dk_write_14
set_option maxHeartbeats 4000000 in
set_option maxRecDepth 100000 in
theorem q_Dk_write_y (G : xG) (l : Launch) (h0 bq : Nat) (wr tc : Int32) (i b : Nat) (dk : Nat → Nat) (ht : ¬ tc = nI 1) (hi : i < 129) : xMi G l y_Dk_write c_Dk_write 3 .boolean ({ frames := 0, cells := 0, slots := 0, locals := 0 }) [.ref h0, .int (nI i), .int (nI b)] [] [(h0, .inr (2, [.ref bq, .int wr, .int tc])), (bq, x_N G 129 dk)] Unit (fun r _ => r = nI 1) (fun u => [(h0, .inr (2, [.ref bq, .int (wr + nI 1), .int (d_w1 tc)])), (bq, x_N G 129 (va_up dk i b))]) 0 0 := by
  refine xMz.by r_Dk (by decide +kernel) (Nat.le_of_ble_eq_true rfl) rfl ?_
  intro p e s m args below meth c A ls Q E B hro hl hret
  have hl : lv_has ls 3 [(0, .ref h0), (1, .int (nI i)), (2, .int (nI b))] := hl
  refine lv_aload_n E.1 E.2.1 d_Dk_write_0 rfl (lv_at hl 0 rfl) ?_
  refine x_get E B 0 rfl k_Dk 2 (by decide) wd_156 rfl d_Dk_write_1 ?_
  refine lv_iconst (v := nI 1) E.1 E.2.1 d_Dk_write_4 (by decide) ?_
  refine lv_icmp_ne (tgt := 15) E.1 E.2.1 d_Dk_write_5 (by decide) (fun hc => ?_) (fun hc => ?_)
  · refine lv_aload_n E.1 E.2.1 d_Dk_write_15 rfl (lv_at hl 0 rfl) ?_
    refine x_get E B 0 rfl k_Dk 2 (by decide) wd_156 rfl d_Dk_write_16 ?_
    refine lv_iconst (v := nI 1) E.1 E.2.1 d_Dk_write_19 (by decide) ?_
    refine lv_icmp_le (tgt := 33) E.1 E.2.1 d_Dk_write_20 (by decide) (fun hc2 => ?_) (fun hc2 => ?_)
    · have B := B.eq ([(h0, .inr (2, [.ref bq, .int wr, .int (d_w1 tc)])), (bq, x_N G 129 dk)]) (by first | rw [d_w1a hc2] | rw [d_w1b hc2])
      refine lv_aload_n E.1 E.2.1 d_Dk_write_33 rfl (lv_at hl 0 rfl) ?_
      refine x_get E B 0 rfl k_Dk 0 (by decide) wd_152 rfl d_Dk_write_34 ?_
      refine lv_iload_n E.1 E.2.1 d_Dk_write_37 rfl (lv_at hl 1 rfl) ?_
      refine lv_iload_n E.1 E.2.1 d_Dk_write_38 rfl (lv_at hl 2 rfl) ?_
      refine x_astN E B 1 rfl (i := i) (v := b) (by omega) (by decide) d_Dk_write_39 (fun H locs B => ?_)
      have B : xB G A s _ _ ([(h0, .inr (2, [.ref bq, .int wr, .int (d_w1 tc)])), (bq, x_N G 129 (va_up dk i b))]) := B
      refine lv_aload_n E.1 E.2.1 d_Dk_write_40 rfl (lv_at hl 0 rfl) ?_
      refine lv_dup E.1 E.2.1 d_Dk_write_41 rfl ?_
      refine x_get E B 0 rfl k_Dk 1 (by decide) wd_154 rfl d_Dk_write_42 ?_
      refine lv_iconst (v := nI 1) E.1 E.2.1 d_Dk_write_45 (by decide) ?_
      refine lv_iadd E.1 E.2.1 d_Dk_write_46 ?_
      refine x_put E B 0 rfl k_Dk 1 (by decide) wd_154 rfl rfl rfl (Nat.le_of_ble_eq_true rfl) d_Dk_write_47 (fun H locs B => ?_)
      have B : xB G A s _ _ ([(h0, .inr (2, [.ref bq, .int (wr + (nI 1)), .int (d_w1 tc)])), (bq, x_N G 129 (va_up dk i b))]) := B
      refine lv_iconst (v := nI 1) E.1 E.2.1 d_Dk_write_50 (by decide) ?_
      exact hret _ () _ _ _ _ B (rfl) rfl d_Dk_write_51
    · refine lv_aload_n E.1 E.2.1 d_Dk_write_23 rfl (lv_at hl 0 rfl) ?_
      refine lv_dup E.1 E.2.1 d_Dk_write_24 rfl ?_
      refine x_get E B 0 rfl k_Dk 2 (by decide) wd_156 rfl d_Dk_write_25 ?_
      refine lv_iconst (v := nI 1) E.1 E.2.1 d_Dk_write_28 (by decide) ?_
      refine lv_isub E.1 E.2.1 d_Dk_write_29 ?_
      refine x_put E B 0 rfl k_Dk 2 (by decide) wd_156 rfl rfl rfl (Nat.le_of_ble_eq_true rfl) d_Dk_write_30 (fun H locs B => ?_)
      have B : xB G A s _ _ ([(h0, .inr (2, [.ref bq, .int wr, .int (tc - (nI 1))])), (bq, x_N G 129 dk)]) := B
      have B := B.eq ([(h0, .inr (2, [.ref bq, .int wr, .int (d_w1 tc)])), (bq, x_N G 129 dk)]) (by first | rw [d_w1a hc2] | rw [d_w1b hc2])
      refine lv_aload_n E.1 E.2.1 d_Dk_write_33 rfl (lv_at hl 0 rfl) ?_
      refine x_get E B 0 rfl k_Dk 0 (by decide) wd_152 rfl d_Dk_write_34 ?_
      refine lv_iload_n E.1 E.2.1 d_Dk_write_37 rfl (lv_at hl 1 rfl) ?_
      refine lv_iload_n E.1 E.2.1 d_Dk_write_38 rfl (lv_at hl 2 rfl) ?_
      refine x_astN E B 1 rfl (i := i) (v := b) (by omega) (by decide) d_Dk_write_39 (fun H locs B => ?_)
      have B : xB G A s _ _ ([(h0, .inr (2, [.ref bq, .int wr, .int (d_w1 tc)])), (bq, x_N G 129 (va_up dk i b))]) := B
      refine lv_aload_n E.1 E.2.1 d_Dk_write_40 rfl (lv_at hl 0 rfl) ?_
      refine lv_dup E.1 E.2.1 d_Dk_write_41 rfl ?_
      refine x_get E B 0 rfl k_Dk 1 (by decide) wd_154 rfl d_Dk_write_42 ?_
      refine lv_iconst (v := nI 1) E.1 E.2.1 d_Dk_write_45 (by decide) ?_
      refine lv_iadd E.1 E.2.1 d_Dk_write_46 ?_
      refine x_put E B 0 rfl k_Dk 1 (by decide) wd_154 rfl rfl rfl (Nat.le_of_ble_eq_true rfl) d_Dk_write_47 (fun H locs B => ?_)
      have B : xB G A s _ _ ([(h0, .inr (2, [.ref bq, .int (wr + (nI 1)), .int (d_w1 tc)])), (bq, x_N G 129 (va_up dk i b))]) := B
      refine lv_iconst (v := nI 1) E.1 E.2.1 d_Dk_write_50 (by decide) ?_
      exact hret _ () _ _ _ _ B (rfl) rfl d_Dk_write_51
  · exfalso; exact ht hc
set_option maxHeartbeats 4000000 in
set_option maxRecDepth 100000 in
theorem q_Dk_store (G : xG) (l : Launch) (h0 bq : Nat) (sq : Nat) (wr tc : Int32) (dk sd : Nat → Nat) (hd : g_bt 129 dk) : xMi G l y_Dk_store c_Dk_store 5 .boolean ({ frames := 1, cells := 0, slots := 0, locals := 22 }) [.ref h0, .ref sq] [(sq, 64, nA sd)] [(h0, .inr (2, [.ref bq, .int wr, .int tc])), (bq, x_N G 129 dk)] Unit (fun r _ => r = nI (d_re tc)) (fun u => [(h0, .inr (2, [.ref bq, .int (wr + nI (d_n tc)), .int (d_te tc)])), (bq, x_N G 129 (d_dk dk sd (d_n tc)))]) 0 0 := by
  refine xMz.by r_Dk (by decide +kernel) (Nat.le_of_ble_eq_true rfl) rfl ?_
  intro p e s m args below meth c A ls Q E B hro hl hret
  have hl : lv_has ls 5 [(0, .ref h0), (1, .ref sq)] := hl
  have hR0 : x_R A s s.heap sq 64 (nA sd) := hro _ (List.mem_of_getElem? (i := 0) rfl)
  have hd0 := hd 0 (by decide)
  have hfr : d_fr dk ≤ 65 := by unfold d_fr; split <;> omega
  refine lv_aload_n E.1 E.2.1 d_Dk_store_0 rfl (lv_at hl 0 rfl) ?_
  refine x_get E B 0 rfl k_Dk 0 (by decide) wd_152 rfl d_Dk_store_1 ?_
  refine lv_iconst (v := nI 0) E.1 E.2.1 d_Dk_store_4 (by decide) ?_
  refine x_aldN E B 1 rfl (i := 0) (by omega) (by decide) d_Dk_store_5 ?_
  refine lv_iconst (v := nI 1) E.1 E.2.1 d_Dk_store_6 (by decide) ?_
  refine x_ne (tgt := 14) E d_Dk_store_7 (by decide) (by omega) (by omega) (fun hm => ?_) (fun hm => ?_)
  · refine lv_iconst (v := nI 0) E.1 E.2.1 d_Dk_store_14 (by decide) ?_
    refine lv_istore_n (lv' := [(2, .int (nI 0)), (0, .ref h0), (1, .ref sq)]) E.1 E.2.1 d_Dk_store_15 rfl hl (by decide) rfl (fun ls hl => ?_)
    refine lv_iload_n E.1 E.2.1 d_Dk_store_16 rfl (lv_at hl 0 rfl) ?_
    refine x_if0 (tgt := 25) E d_Dk_store_17 (by decide) (by omega) (fun hz => ?_) (fun hz => ?_)
    · refine lv_iconst (v := nI 1) E.1 E.2.1 d_Dk_store_25 (by decide) ?_
      refine x_top (v' := (nI (d_fr dk))) (by unfold d_fr; first | rw [if_pos hm] | rw [if_neg hm]) ?_
      refine lv_istore_n (lv' := [(3, .int (nI (d_fr dk))), (2, .int (nI 0)), (0, .ref h0), (1, .ref sq)]) E.1 E.2.1 d_Dk_store_26 rfl hl (by decide) rfl (fun ls hl => ?_)
      refine lv_iconst (v := nI 0) E.1 E.2.1 d_Dk_store_27 (by decide) ?_
      refine lv_istore (lv' := [(4, .int (nI 0)), (3, .int (nI (d_fr dk))), (2, .int (nI 0)), (0, .ref h0), (1, .ref sq)]) E.1 E.2.1 d_Dk_store_28 hl (by decide) rfl (fun ls hl => ?_)
      have hL30 : ∀ (kf : Nat) (i : Nat), 64 - i < kf → (i ≤ 64) → (d_nE tc i) → ∀ (H : Heap) (locs : List Loc) (ls : Array Slot), xB G A s H locs ([(h0, .inr (2, [.ref bq, .int (wr + nI i), .int (d_wk tc i)])), (bq, x_N G 129 (va_cpy sd dk 0 (d_fr dk) i))]) → lv_has ls 5 [(4, .int (nI i)), (3, .int (nI (d_fr dk))), (2, .int (nI 0)), (0, .ref h0), (1, .ref sq)] → W p l e ({ frames := 1, cells := 0, slots := 0, locals := 22 }) s m args below meth c H locs 0 0 Q (F0 m 30 ls []) := by
        intro k30
        induction k30 with
        | zero =>
          intro i hk
          exact absurd hk (Nat.not_lt_zero _)
        | succ k30 ih30 =>
          intro i hk30 hi hE H locs ls B hl
          refine lv_iload E.1 E.2.1 d_Dk_store_30 (lv_at hl 0 rfl) ?_
          refine lv_bipush (v := nI 64) E.1 E.2.1 d_Dk_store_32 (by decide) ?_
          refine x_ge (tgt := 60) E d_Dk_store_34 (by decide) (by omega) (by omega) (fun c3 => ?_) (fun c3 => ?_)
          · obtain rfl : i = 64 := by omega
            refine lv_aload_n E.1 E.2.1 d_Dk_store_60 rfl (lv_at hl 3 rfl) ?_
            refine lv_iconst (v := nI 0) E.1 E.2.1 d_Dk_store_61 (by decide) ?_
            refine lv_iload_n E.1 E.2.1 d_Dk_store_62 rfl (lv_at hl 2 rfl) ?_
            refine x_if0 (tgt := 70) E d_Dk_store_63 (by decide) (by omega) (fun hy => ?_) (fun hy => ?_)
            · refine lv_iconst (v := nI 1) E.1 E.2.1 d_Dk_store_70 (by decide) ?_
              by_cases hu : d_wk tc 64 = nI 1
              · refine x_top (v' := (nI (d_mk dk))) (by unfold d_mk; first | rw [if_pos hm] | rw [if_neg hm]) ?_
                refine x_ci (ws' := (fun u => [(h0, .inr (2, [.ref bq, .int (wr + nI 64), .int (nI 0)])), (bq, x_N G 129 (va_cpy sd dk 0 (d_fr dk) 64))])) (wr := []) B (x_rV (rest := []) E B (q_Dk_write_n G l h0 bq (wr + nI 64) (d_wk tc 64) 0 (d_mk dk) (va_cpy sd dk 0 (d_fr dk) 64) (hu) _) (x_pre B [0, 1] rfl (by decide) x_ro0) 0 rfl k_Dk (gg_V wd_342 wd_344 wd_14 wd_39 wd_345) ⟨rfl, p_Dk_write⟩ rfl rfl ⟨Nat.le_of_ble_eq_true rfl, Nat.le_of_ble_eq_true rfl⟩ rfl hl.1 rfl (Nat.le_of_ble_eq_true rfl) d_Dk_store_71 ⟨Nat.le_of_ble_eq_true rfl, Nat.le_of_ble_eq_true rfl⟩) [0, 1] [] [0, 1] rfl rfl (by decide) (by decide) (by decide) (fun _ => rfl) (fun r71 u71 H locs hw71 B => ?_)
                subst hw71
                have B : xB G A s _ _ ([(h0, .inr (2, [.ref bq, .int (wr + nI 64), .int (nI 0)])), (bq, x_N G 129 (va_cpy sd dk 0 (d_fr dk) 64))]) := B
                have hN : d_n tc = 64 := d_nE_n hE (by omega) hu
                have B := B.eq ([(h0, .inr (2, [.ref bq, .int (wr + nI (d_n tc)), .int (d_te tc)])), (bq, x_N G 129 (d_dk dk sd (d_n tc)))]) (by
                  unfold d_te d_dk
                  rw [hN, if_neg (by omega), if_neg (by omega)])
                exact hret _ () _ _ _ _ B (by unfold d_re; first | rw [if_pos hN] | rw [if_neg (by omega)]) rfl d_Dk_store_74
              · refine x_top (v' := (nI (d_mk dk))) (by unfold d_mk; first | rw [if_pos hm] | rw [if_neg hm]) ?_
                refine x_ci (ws' := (fun u => [(h0, .inr (2, [.ref bq, .int ((wr + nI 64) + nI 1), .int (d_w1 (d_wk tc 64))])), (bq, x_N G 129 (va_up (va_cpy sd dk 0 (d_fr dk) 64) 0 (d_mk dk)))])) (wr := []) B (x_rV (rest := []) E B (q_Dk_write_y G l h0 bq (wr + nI 64) (d_wk tc 64) 0 (d_mk dk) (va_cpy sd dk 0 (d_fr dk) 64) (hu) (by omega) _) (x_pre B [0, 1] rfl (by decide) x_ro0) 0 rfl k_Dk (gg_V wd_342 wd_344 wd_14 wd_39 wd_345) ⟨rfl, p_Dk_write⟩ rfl rfl ⟨Nat.le_of_ble_eq_true rfl, Nat.le_of_ble_eq_true rfl⟩ rfl hl.1 rfl (Nat.le_of_ble_eq_true rfl) d_Dk_store_71 ⟨Nat.le_of_ble_eq_true rfl, Nat.le_of_ble_eq_true rfl⟩) [0, 1] [] [0, 1] rfl rfl (by decide) (by decide) (by decide) (fun _ => rfl) (fun r71 u71 H locs hw71 B => ?_)
                subst hw71
                have B : xB G A s _ _ ([(h0, .inr (2, [.ref bq, .int ((wr + nI 64) + nI 1), .int (d_w1 (d_wk tc 64))])), (bq, x_N G 129 (va_up (va_cpy sd dk 0 (d_fr dk) 64) 0 (d_mk dk)))]) := B
                have hN : d_n tc = 65 := d_nE_e (d_nE_y hE (by omega) hu)
                have B := B.eq ([(h0, .inr (2, [.ref bq, .int (wr + nI (d_n tc)), .int (d_te tc)])), (bq, x_N G 129 (d_dk dk sd (d_n tc)))]) (by
                  unfold d_te d_dk
                  have e : wr + nI 64 + nI 1 = wr + nI 65 := by rw [Int32.add_assoc, nI_add]
                  rw [hN, if_pos rfl, if_pos rfl, e]
                  rfl)
                exact hret _ () _ _ _ _ B (by unfold d_re; first | rw [if_pos hN] | rw [if_neg (by omega)]) rfl d_Dk_store_74
            · exfalso; exact hy rfl
          · refine lv_aload_n E.1 E.2.1 d_Dk_store_37 rfl (lv_at hl 3 rfl) ?_
            refine lv_iload_n E.1 E.2.1 d_Dk_store_38 rfl (lv_at hl 1 rfl) ?_
            refine lv_iload E.1 E.2.1 d_Dk_store_39 (lv_at hl 0 rfl) ?_
            refine x_iadd E d_Dk_store_41 ?_
            refine lv_aload_n E.1 E.2.1 d_Dk_store_42 rfl (lv_at hl 4 rfl) ?_
            refine lv_iload E.1 E.2.1 d_Dk_store_43 (lv_at hl 0 rfl) ?_
            refine x_tld E B hR0 (i := i) (by omega) (by decide) d_Dk_store_45 ?_
            by_cases ht : d_wk tc i = nI 1
            · refine x_ci (ws' := (fun u => [(h0, .inr (2, [.ref bq, .int (wr + nI i), .int (nI 0)])), (bq, x_N G 129 (va_cpy sd dk 0 (d_fr dk) i))])) (wr := []) B (x_rV (rest := []) E B (q_Dk_write_n G l h0 bq (wr + nI i) (d_wk tc i) ((d_fr dk) + i) (sd i) (va_cpy sd dk 0 (d_fr dk) i) (ht) _) (x_pre B [0, 1] rfl (by decide) x_ro0) 0 rfl k_Dk (gg_V wd_342 wd_344 wd_14 wd_39 wd_345) ⟨rfl, p_Dk_write⟩ rfl rfl ⟨Nat.le_of_ble_eq_true rfl, Nat.le_of_ble_eq_true rfl⟩ rfl hl.1 rfl (Nat.le_of_ble_eq_true rfl) d_Dk_store_46 ⟨Nat.le_of_ble_eq_true rfl, Nat.le_of_ble_eq_true rfl⟩) [0, 1] [] [0, 1] rfl rfl (by decide) (by decide) (by decide) (fun _ => rfl) (fun r46 u46 H locs hw46 B => ?_)
              subst hw46
              have B : xB G A s _ _ ([(h0, .inr (2, [.ref bq, .int (wr + nI i), .int (nI 0)])), (bq, x_N G 129 (va_cpy sd dk 0 (d_fr dk) i))]) := B
              refine x_ifn (tgt := 54) E d_Dk_store_49 (by decide) (by omega) (fun hy => ?_) (fun hy => ?_)
              · exfalso; exact hy rfl
              · have hN : d_n tc = i := d_nE_n hE (by omega) ht
                have B := B.eq ([(h0, .inr (2, [.ref bq, .int (wr + nI (d_n tc)), .int (d_te tc)])), (bq, x_N G 129 (d_dk dk sd (d_n tc)))]) (by
                  unfold d_te d_dk
                  rw [hN, if_neg (by omega), if_neg (by omega)])
                refine lv_iconst (v := nI 0) E.1 E.2.1 d_Dk_store_52 (by decide) ?_
                exact hret _ () _ _ _ _ B (by unfold d_re; rw [if_neg (by omega)]) rfl d_Dk_store_53
            · refine x_ci (ws' := (fun u => [(h0, .inr (2, [.ref bq, .int ((wr + nI i) + nI 1), .int (d_w1 (d_wk tc i))])), (bq, x_N G 129 (va_up (va_cpy sd dk 0 (d_fr dk) i) ((d_fr dk) + i) (sd i)))])) (wr := []) B (x_rV (rest := []) E B (q_Dk_write_y G l h0 bq (wr + nI i) (d_wk tc i) ((d_fr dk) + i) (sd i) (va_cpy sd dk 0 (d_fr dk) i) (ht) (by omega) _) (x_pre B [0, 1] rfl (by decide) x_ro0) 0 rfl k_Dk (gg_V wd_342 wd_344 wd_14 wd_39 wd_345) ⟨rfl, p_Dk_write⟩ rfl rfl ⟨Nat.le_of_ble_eq_true rfl, Nat.le_of_ble_eq_true rfl⟩ rfl hl.1 rfl (Nat.le_of_ble_eq_true rfl) d_Dk_store_46 ⟨Nat.le_of_ble_eq_true rfl, Nat.le_of_ble_eq_true rfl⟩) [0, 1] [] [0, 1] rfl rfl (by decide) (by decide) (by decide) (fun _ => rfl) (fun r46 u46 H locs hw46 B => ?_)
              subst hw46
              have B : xB G A s _ _ ([(h0, .inr (2, [.ref bq, .int ((wr + nI i) + nI 1), .int (d_w1 (d_wk tc i))])), (bq, x_N G 129 (va_up (va_cpy sd dk 0 (d_fr dk) i) ((d_fr dk) + i) (sd i)))]) := B
              have B := B.fn 1 rfl (nA (va_cpy sd dk 0 (d_fr dk) (i + 1))) (cp_s rfl)
              have B : xB G A s _ _ ([(h0, .inr (2, [.ref bq, .int ((wr + nI i) + nI 1), .int (d_w1 (d_wk tc i))])), (bq, x_N G 129 (va_cpy sd dk 0 (d_fr dk) (i + 1)))]) := B
              refine x_ifn (tgt := 54) E d_Dk_store_49 (by decide) (by omega) (fun hy => ?_) (fun hy => ?_)
              · refine x_inc E 1 (lv' := [(4, .int (nI (i + 1))), (3, .int (nI (d_fr dk))), (2, .int (nI 0)), (0, .ref h0), (1, .ref sq)]) d_Dk_store_54 hl (k := 0) rfl rfl (by decide) rfl (fun ls hl => ?_)
                refine lv_goto (tgt := 30) E.1 E.2.1 d_Dk_store_57 (by decide) ?_
                have B := B.eq ([(h0, .inr (2, [.ref bq, .int (wr + nI (i + 1)), .int (d_wk tc (i + 1))])), (bq, x_N G 129 (va_cpy sd dk 0 (d_fr dk) (i + 1)))]) (by rw [← nI_add, ← Int32.add_assoc]; rfl)
                exact ih30  (i + 1) (by omega) (by omega) (d_nE_y hE (by omega) ht) _ _ _ B (lv_sub hl [0, 1, 2, 3, 4] rfl)
              · exfalso; exact absurd hy (by decide)
      have B := B.fn 1 rfl (nA (va_cpy sd dk 0 (d_fr dk) 0)) (cp_z)
      have B : xB G A s _ _ ([(h0, .inr (2, [.ref bq, .int wr, .int tc])), (bq, x_N G 129 (va_cpy sd dk 0 (d_fr dk) 0))]) := B
      have B := B.eq ([(h0, .inr (2, [.ref bq, .int (wr + nI 0), .int (d_wk tc 0)])), (bq, x_N G 129 (va_cpy sd dk 0 (d_fr dk) 0))]) (by rw [nI_0, Int32.add_zero]; rfl)
      exact hL30 (65) 0 (by omega) (by omega) (d_nE_0 tc) _ _ _ B (lv_sub hl [0, 1, 2, 3, 4] rfl)
    · exfalso; exact hz rfl
  · refine lv_iconst (v := nI 1) E.1 E.2.1 d_Dk_store_10 (by decide) ?_
    refine lv_goto (tgt := 15) E.1 E.2.1 d_Dk_store_11 (by decide) ?_
    refine lv_istore_n (lv' := [(2, .int (nI 1)), (0, .ref h0), (1, .ref sq)]) E.1 E.2.1 d_Dk_store_15 rfl hl (by decide) rfl (fun ls hl => ?_)
    refine lv_iload_n E.1 E.2.1 d_Dk_store_16 rfl (lv_at hl 0 rfl) ?_
    refine x_if0 (tgt := 25) E d_Dk_store_17 (by decide) (by omega) (fun hz => ?_) (fun hz => ?_)
    · exfalso; exact absurd hz (by decide)
    · refine lv_bipush (v := nI 65) E.1 E.2.1 d_Dk_store_20 (by decide) ?_
      refine lv_goto (tgt := 26) E.1 E.2.1 d_Dk_store_22 (by decide) ?_
      refine x_top (v' := (nI (d_fr dk))) (by unfold d_fr; first | rw [if_pos hm] | rw [if_neg hm]) ?_
      refine lv_istore_n (lv' := [(3, .int (nI (d_fr dk))), (2, .int (nI 1)), (0, .ref h0), (1, .ref sq)]) E.1 E.2.1 d_Dk_store_26 rfl hl (by decide) rfl (fun ls hl => ?_)
      refine lv_iconst (v := nI 0) E.1 E.2.1 d_Dk_store_27 (by decide) ?_
      refine lv_istore (lv' := [(4, .int (nI 0)), (3, .int (nI (d_fr dk))), (2, .int (nI 1)), (0, .ref h0), (1, .ref sq)]) E.1 E.2.1 d_Dk_store_28 hl (by decide) rfl (fun ls hl => ?_)
      have hL30 : ∀ (kf : Nat) (i : Nat), 64 - i < kf → (i ≤ 64) → (d_nE tc i) → ∀ (H : Heap) (locs : List Loc) (ls : Array Slot), xB G A s H locs ([(h0, .inr (2, [.ref bq, .int (wr + nI i), .int (d_wk tc i)])), (bq, x_N G 129 (va_cpy sd dk 0 (d_fr dk) i))]) → lv_has ls 5 [(4, .int (nI i)), (3, .int (nI (d_fr dk))), (2, .int (nI 1)), (0, .ref h0), (1, .ref sq)] → W p l e ({ frames := 1, cells := 0, slots := 0, locals := 22 }) s m args below meth c H locs 0 0 Q (F0 m 30 ls []) := by
        intro k30
        induction k30 with
        | zero =>
          intro i hk
          exact absurd hk (Nat.not_lt_zero _)
        | succ k30 ih30 =>
          intro i hk30 hi hE H locs ls B hl
          refine lv_iload E.1 E.2.1 d_Dk_store_30 (lv_at hl 0 rfl) ?_
          refine lv_bipush (v := nI 64) E.1 E.2.1 d_Dk_store_32 (by decide) ?_
          refine x_ge (tgt := 60) E d_Dk_store_34 (by decide) (by omega) (by omega) (fun c8 => ?_) (fun c8 => ?_)
          · obtain rfl : i = 64 := by omega
            refine lv_aload_n E.1 E.2.1 d_Dk_store_60 rfl (lv_at hl 3 rfl) ?_
            refine lv_iconst (v := nI 0) E.1 E.2.1 d_Dk_store_61 (by decide) ?_
            refine lv_iload_n E.1 E.2.1 d_Dk_store_62 rfl (lv_at hl 2 rfl) ?_
            refine x_if0 (tgt := 70) E d_Dk_store_63 (by decide) (by omega) (fun hy => ?_) (fun hy => ?_)
            · exfalso; exact absurd hy (by decide)
            · refine lv_iconst (v := nI 2) E.1 E.2.1 d_Dk_store_66 (by decide) ?_
              refine lv_goto (tgt := 71) E.1 E.2.1 d_Dk_store_67 (by decide) ?_
              by_cases hu : d_wk tc 64 = nI 1
              · refine x_top (v' := (nI (d_mk dk))) (by unfold d_mk; first | rw [if_pos hm] | rw [if_neg hm]) ?_
                refine x_ci (ws' := (fun u => [(h0, .inr (2, [.ref bq, .int (wr + nI 64), .int (nI 0)])), (bq, x_N G 129 (va_cpy sd dk 0 (d_fr dk) 64))])) (wr := []) B (x_rV (rest := []) E B (q_Dk_write_n G l h0 bq (wr + nI 64) (d_wk tc 64) 0 (d_mk dk) (va_cpy sd dk 0 (d_fr dk) 64) (hu) _) (x_pre B [0, 1] rfl (by decide) x_ro0) 0 rfl k_Dk (gg_V wd_342 wd_344 wd_14 wd_39 wd_345) ⟨rfl, p_Dk_write⟩ rfl rfl ⟨Nat.le_of_ble_eq_true rfl, Nat.le_of_ble_eq_true rfl⟩ rfl hl.1 rfl (Nat.le_of_ble_eq_true rfl) d_Dk_store_71 ⟨Nat.le_of_ble_eq_true rfl, Nat.le_of_ble_eq_true rfl⟩) [0, 1] [] [0, 1] rfl rfl (by decide) (by decide) (by decide) (fun _ => rfl) (fun r71 u71 H locs hw71 B => ?_)
                subst hw71
                have B : xB G A s _ _ ([(h0, .inr (2, [.ref bq, .int (wr + nI 64), .int (nI 0)])), (bq, x_N G 129 (va_cpy sd dk 0 (d_fr dk) 64))]) := B
                have hN : d_n tc = 64 := d_nE_n hE (by omega) hu
                have B := B.eq ([(h0, .inr (2, [.ref bq, .int (wr + nI (d_n tc)), .int (d_te tc)])), (bq, x_N G 129 (d_dk dk sd (d_n tc)))]) (by
                  unfold d_te d_dk
                  rw [hN, if_neg (by omega), if_neg (by omega)])
                exact hret _ () _ _ _ _ B (by unfold d_re; first | rw [if_pos hN] | rw [if_neg (by omega)]) rfl d_Dk_store_74
              · refine x_top (v' := (nI (d_mk dk))) (by unfold d_mk; first | rw [if_pos hm] | rw [if_neg hm]) ?_
                refine x_ci (ws' := (fun u => [(h0, .inr (2, [.ref bq, .int ((wr + nI 64) + nI 1), .int (d_w1 (d_wk tc 64))])), (bq, x_N G 129 (va_up (va_cpy sd dk 0 (d_fr dk) 64) 0 (d_mk dk)))])) (wr := []) B (x_rV (rest := []) E B (q_Dk_write_y G l h0 bq (wr + nI 64) (d_wk tc 64) 0 (d_mk dk) (va_cpy sd dk 0 (d_fr dk) 64) (hu) (by omega) _) (x_pre B [0, 1] rfl (by decide) x_ro0) 0 rfl k_Dk (gg_V wd_342 wd_344 wd_14 wd_39 wd_345) ⟨rfl, p_Dk_write⟩ rfl rfl ⟨Nat.le_of_ble_eq_true rfl, Nat.le_of_ble_eq_true rfl⟩ rfl hl.1 rfl (Nat.le_of_ble_eq_true rfl) d_Dk_store_71 ⟨Nat.le_of_ble_eq_true rfl, Nat.le_of_ble_eq_true rfl⟩) [0, 1] [] [0, 1] rfl rfl (by decide) (by decide) (by decide) (fun _ => rfl) (fun r71 u71 H locs hw71 B => ?_)
                subst hw71
                have B : xB G A s _ _ ([(h0, .inr (2, [.ref bq, .int ((wr + nI 64) + nI 1), .int (d_w1 (d_wk tc 64))])), (bq, x_N G 129 (va_up (va_cpy sd dk 0 (d_fr dk) 64) 0 (d_mk dk)))]) := B
                have hN : d_n tc = 65 := d_nE_e (d_nE_y hE (by omega) hu)
                have B := B.eq ([(h0, .inr (2, [.ref bq, .int (wr + nI (d_n tc)), .int (d_te tc)])), (bq, x_N G 129 (d_dk dk sd (d_n tc)))]) (by
                  unfold d_te d_dk
                  have e : wr + nI 64 + nI 1 = wr + nI 65 := by rw [Int32.add_assoc, nI_add]
                  rw [hN, if_pos rfl, if_pos rfl, e]
                  rfl)
                exact hret _ () _ _ _ _ B (by unfold d_re; first | rw [if_pos hN] | rw [if_neg (by omega)]) rfl d_Dk_store_74
          · refine lv_aload_n E.1 E.2.1 d_Dk_store_37 rfl (lv_at hl 3 rfl) ?_
            refine lv_iload_n E.1 E.2.1 d_Dk_store_38 rfl (lv_at hl 1 rfl) ?_
            refine lv_iload E.1 E.2.1 d_Dk_store_39 (lv_at hl 0 rfl) ?_
            refine x_iadd E d_Dk_store_41 ?_
            refine lv_aload_n E.1 E.2.1 d_Dk_store_42 rfl (lv_at hl 4 rfl) ?_
            refine lv_iload E.1 E.2.1 d_Dk_store_43 (lv_at hl 0 rfl) ?_
            refine x_tld E B hR0 (i := i) (by omega) (by decide) d_Dk_store_45 ?_
            by_cases ht : d_wk tc i = nI 1
            · refine x_ci (ws' := (fun u => [(h0, .inr (2, [.ref bq, .int (wr + nI i), .int (nI 0)])), (bq, x_N G 129 (va_cpy sd dk 0 (d_fr dk) i))])) (wr := []) B (x_rV (rest := []) E B (q_Dk_write_n G l h0 bq (wr + nI i) (d_wk tc i) ((d_fr dk) + i) (sd i) (va_cpy sd dk 0 (d_fr dk) i) (ht) _) (x_pre B [0, 1] rfl (by decide) x_ro0) 0 rfl k_Dk (gg_V wd_342 wd_344 wd_14 wd_39 wd_345) ⟨rfl, p_Dk_write⟩ rfl rfl ⟨Nat.le_of_ble_eq_true rfl, Nat.le_of_ble_eq_true rfl⟩ rfl hl.1 rfl (Nat.le_of_ble_eq_true rfl) d_Dk_store_46 ⟨Nat.le_of_ble_eq_true rfl, Nat.le_of_ble_eq_true rfl⟩) [0, 1] [] [0, 1] rfl rfl (by decide) (by decide) (by decide) (fun _ => rfl) (fun r46 u46 H locs hw46 B => ?_)
              subst hw46
              have B : xB G A s _ _ ([(h0, .inr (2, [.ref bq, .int (wr + nI i), .int (nI 0)])), (bq, x_N G 129 (va_cpy sd dk 0 (d_fr dk) i))]) := B
              refine x_ifn (tgt := 54) E d_Dk_store_49 (by decide) (by omega) (fun hy => ?_) (fun hy => ?_)
              · exfalso; exact hy rfl
              · have hN : d_n tc = i := d_nE_n hE (by omega) ht
                have B := B.eq ([(h0, .inr (2, [.ref bq, .int (wr + nI (d_n tc)), .int (d_te tc)])), (bq, x_N G 129 (d_dk dk sd (d_n tc)))]) (by
                  unfold d_te d_dk
                  rw [hN, if_neg (by omega), if_neg (by omega)])
                refine lv_iconst (v := nI 0) E.1 E.2.1 d_Dk_store_52 (by decide) ?_
                exact hret _ () _ _ _ _ B (by unfold d_re; rw [if_neg (by omega)]) rfl d_Dk_store_53
            · refine x_ci (ws' := (fun u => [(h0, .inr (2, [.ref bq, .int ((wr + nI i) + nI 1), .int (d_w1 (d_wk tc i))])), (bq, x_N G 129 (va_up (va_cpy sd dk 0 (d_fr dk) i) ((d_fr dk) + i) (sd i)))])) (wr := []) B (x_rV (rest := []) E B (q_Dk_write_y G l h0 bq (wr + nI i) (d_wk tc i) ((d_fr dk) + i) (sd i) (va_cpy sd dk 0 (d_fr dk) i) (ht) (by omega) _) (x_pre B [0, 1] rfl (by decide) x_ro0) 0 rfl k_Dk (gg_V wd_342 wd_344 wd_14 wd_39 wd_345) ⟨rfl, p_Dk_write⟩ rfl rfl ⟨Nat.le_of_ble_eq_true rfl, Nat.le_of_ble_eq_true rfl⟩ rfl hl.1 rfl (Nat.le_of_ble_eq_true rfl) d_Dk_store_46 ⟨Nat.le_of_ble_eq_true rfl, Nat.le_of_ble_eq_true rfl⟩) [0, 1] [] [0, 1] rfl rfl (by decide) (by decide) (by decide) (fun _ => rfl) (fun r46 u46 H locs hw46 B => ?_)
              subst hw46
              have B : xB G A s _ _ ([(h0, .inr (2, [.ref bq, .int ((wr + nI i) + nI 1), .int (d_w1 (d_wk tc i))])), (bq, x_N G 129 (va_up (va_cpy sd dk 0 (d_fr dk) i) ((d_fr dk) + i) (sd i)))]) := B
              have B := B.fn 1 rfl (nA (va_cpy sd dk 0 (d_fr dk) (i + 1))) (cp_s rfl)
              have B : xB G A s _ _ ([(h0, .inr (2, [.ref bq, .int ((wr + nI i) + nI 1), .int (d_w1 (d_wk tc i))])), (bq, x_N G 129 (va_cpy sd dk 0 (d_fr dk) (i + 1)))]) := B
              refine x_ifn (tgt := 54) E d_Dk_store_49 (by decide) (by omega) (fun hy => ?_) (fun hy => ?_)
              · refine x_inc E 1 (lv' := [(4, .int (nI (i + 1))), (3, .int (nI (d_fr dk))), (2, .int (nI 1)), (0, .ref h0), (1, .ref sq)]) d_Dk_store_54 hl (k := 0) rfl rfl (by decide) rfl (fun ls hl => ?_)
                refine lv_goto (tgt := 30) E.1 E.2.1 d_Dk_store_57 (by decide) ?_
                have B := B.eq ([(h0, .inr (2, [.ref bq, .int (wr + nI (i + 1)), .int (d_wk tc (i + 1))])), (bq, x_N G 129 (va_cpy sd dk 0 (d_fr dk) (i + 1)))]) (by rw [← nI_add, ← Int32.add_assoc]; rfl)
                exact ih30  (i + 1) (by omega) (by omega) (d_nE_y hE (by omega) ht) _ _ _ B (lv_sub hl [0, 1, 2, 3, 4] rfl)
              · exfalso; exact absurd hy (by decide)
      have B := B.fn 1 rfl (nA (va_cpy sd dk 0 (d_fr dk) 0)) (cp_z)
      have B : xB G A s _ _ ([(h0, .inr (2, [.ref bq, .int wr, .int tc])), (bq, x_N G 129 (va_cpy sd dk 0 (d_fr dk) 0))]) := B
      have B := B.eq ([(h0, .inr (2, [.ref bq, .int (wr + nI 0), .int (d_wk tc 0)])), (bq, x_N G 129 (va_cpy sd dk 0 (d_fr dk) 0))]) (by rw [nI_0, Int32.add_zero]; rfl)
      exact hL30 (65) 0 (by omega) (by omega) (d_nE_0 tc) _ _ _ B (lv_sub hl [0, 1, 2, 3, 4] rfl)
set_option maxHeartbeats 4000000 in
set_option maxRecDepth 100000 in
theorem q_Po_new (G : xG) (l : Launch) (h0 : Nat)  : xMv G l y_Po_new c_Po_new 1 ({ frames := 1, cells := 1, slots := 12, locals := 20 }) [.ref h0] [] [(h0, .inr (4, [.null, .int (nI 0)]))] Nat (fun _ => True) (fun u => [(h0, .inr (4, [.ref u, .int (nI 0)])), (u, x_N G 12 (fun _ => 0))]) 1 12 := by
  refine xMv.by r_Po (by decide +kernel) (Nat.le_of_ble_eq_true rfl) rfl ?_
  intro p e s m args below meth c A ls Q E hin B hro hl hret
  have hl : lv_has ls 1 [(0, .ref h0)] := hl
  refine lv_aload_n E.1 E.2.1 d_Po_new_0 rfl (lv_at hl 0 rfl) ?_
  refine x_oi E wd_63 wd_49 wd_50 hl.1 d_Po_new_1 (Nat.le_of_ble_eq_true rfl) (Nat.le_of_ble_eq_true rfl) ?_
  refine lv_aload_n E.1 E.2.1 d_Po_new_4 rfl (lv_at hl 0 rfl) ?_
  refine lv_bipush (v := nI 12) E.1 E.2.1 d_Po_new_5 (by decide) ?_
  refine x_newa E B wd_74 (n := 12) (by decide) (Nat.le_of_ble_eq_true rfl) (Nat.le_of_ble_eq_true rfl) d_Po_new_7 (fun q1 H B => ?_)
  have B : xB G A s _ _ ([(h0, .inr (4, [.null, .int (nI 0)])), (q1, x_N G 12 (fun _ => 0))]) := B
  refine x_put E B 0 rfl k_Po 0 (by decide) wd_64 rfl rfl rfl (Nat.le_of_ble_eq_true rfl) d_Po_new_9 (fun H locs B => ?_)
  have B : xB G A s _ _ ([(h0, .inr (4, [.ref q1, .int (nI 0)])), (q1, x_N G 12 (fun _ => 0))]) := B
  refine lv_aload_n E.1 E.2.1 d_Po_new_12 rfl (lv_at hl 0 rfl) ?_
  refine lv_iconst (v := nI 0) E.1 E.2.1 d_Po_new_13 (by decide) ?_
  refine x_put E B 0 rfl k_Po 1 (by decide) wd_66 rfl rfl rfl (Nat.le_of_ble_eq_true rfl) d_Po_new_14 (fun H locs B => ?_)
  have B : xB G A s _ _ ([(h0, .inr (4, [.ref q1, .int (nI 0)])), (q1, x_N G 12 (fun _ => 0))]) := B
  exact hret q1 _ _ _ _ B trivial d_Po_new_17
set_option maxHeartbeats 4000000 in
set_option maxRecDepth 100000 in
theorem q_Po_grow (G : xG) (l : Launch) (h0 bq cp ln : Nat) (g : Nat → Nat) (hlc : ln ≤ cp) (hc : cp ≤ 1536) : xMv G l y_Po_grow c_Po_grow 2 ({ frames := 1, cells := 1, slots := 3072, locals := 60 }) [.ref h0] [] [(h0, .inr (4, [.ref bq, .int (nI ln)])), (bq, x_N G cp g)] Nat (fun _ => True) (fun u => [(h0, .inr (4, [.ref u, .int (nI ln)])), (u, x_N G (2 * cp) (va_cpy g (fun _ => 0) 0 0 ln))]) 1 3072 := by
  refine xMv.by r_Po (by decide +kernel) (Nat.le_of_ble_eq_true rfl) rfl ?_
  intro p e s m args below meth c A ls Q E hin B hro hl hret
  have hl : lv_has ls 2 [(0, .ref h0)] := hl
  refine lv_iconst (v := nI 2) E.1 E.2.1 d_Po_grow_0 (by decide) ?_
  refine lv_aload_n E.1 E.2.1 d_Po_grow_1 rfl (lv_at hl 0 rfl) ?_
  refine x_get E B 0 rfl k_Po 0 (by decide) wd_64 rfl d_Po_grow_2 ?_
  refine x_alen E B 1 rfl d_Po_grow_5 ?_
  refine x_imul E d_Po_grow_6 ?_
  refine x_newa E B wd_74 (n := 2 * cp) (by omega) (Nat.le_of_ble_eq_true rfl) (by show 0 + 2 * cp ≤ 3072; omega) d_Po_grow_7 (fun q1 H B => ?_)
  have B : xB G A s _ _ ([(h0, .inr (4, [.ref bq, .int (nI ln)])), (bq, x_N G cp g), (q1, x_N G (2 * cp) (fun _ => 0))]) := B
  refine lv_astore_n (lv' := [(1, .ref q1), (0, .ref h0)]) E.1 E.2.1 d_Po_grow_9 rfl hl (by decide) rfl (fun ls hl => ?_)
  refine lv_aload_n E.1 E.2.1 d_Po_grow_10 rfl (lv_at hl 1 rfl) ?_
  refine x_get E B 0 rfl k_Po 0 (by decide) wd_64 rfl d_Po_grow_11 ?_
  refine lv_iconst (v := nI 0) E.1 E.2.1 d_Po_grow_14 (by decide) ?_
  refine lv_aload_n E.1 E.2.1 d_Po_grow_15 rfl (lv_at hl 0 rfl) ?_
  refine lv_iconst (v := nI 0) E.1 E.2.1 d_Po_grow_16 (by decide) ?_
  refine lv_aload_n E.1 E.2.1 d_Po_grow_17 rfl (lv_at hl 1 rfl) ?_
  refine x_get E B 0 rfl k_Po 1 (by decide) wd_66 rfl d_Po_grow_18 ?_
  refine x_cpy E B wd_215 wd_217 wd_216 wd_41 1 2 (sp := 0) (dp := 0) (n := ln) rfl rfl (by omega) (by omega) (by omega) (by omega) hl.1 (Nat.le_of_ble_eq_true rfl) (Nat.le_of_ble_eq_true rfl) d_Po_grow_21 (fun H locs B => ?_)
  rw [x_cpN] at B
  have B : xB G A s _ _ ([(h0, .inr (4, [.ref bq, .int (nI ln)])), (bq, x_N G cp g), (q1, x_N G (2 * cp) (va_cpy g (fun _ => 0) 0 0 ln))]) := B
  refine lv_aload_n E.1 E.2.1 d_Po_grow_24 rfl (lv_at hl 1 rfl) ?_
  refine lv_aload_n E.1 E.2.1 d_Po_grow_25 rfl (lv_at hl 0 rfl) ?_
  refine x_put E B 0 rfl k_Po 0 (by decide) wd_64 rfl rfl rfl (Nat.le_of_ble_eq_true rfl) d_Po_grow_26 (fun H locs B => ?_)
  have B : xB G A s _ _ ([(h0, .inr (4, [.ref q1, .int (nI ln)])), (bq, x_N G cp g), (q1, x_N G (2 * cp) (va_cpy g (fun _ => 0) 0 0 ln))]) := B
  refine W.widen (k := 1) (n := 3072) (by omega) (by omega) ?_
  exact hret q1 _ _ _ _ (B.sub [0, 2] (by decide) rfl) trivial d_Po_grow_29
set_option maxHeartbeats 4000000 in
set_option maxRecDepth 100000 in
theorem q_Po_add (G : xG) (l : Launch) (h0 bq cp ln sr b : Nat) (g : Nat → Nat) (hlc : ln ≤ cp) (hc : 12 ≤ cp) (hc2 : cp ≤ 3072) (hm : ln + 3 ≤ 1536) : xMi G l y_Po_add c_Po_add 3 .boolean ({ frames := 2, cells := 1, slots := 3072, locals := 81 }) [.ref h0, .int (nI sr), .int (nI b)] [] [(h0, .inr (4, [.ref bq, .int (nI ln)])), (bq, x_N G cp g)] (Nat × Nat × (Nat → Nat)) (fun r u => r = nI 1 ∧ 12 ≤ u.2.1 ∧ u.2.1 ≤ 3072 ∧ ln + 3 ≤ u.2.1 ∧ ∀ j, j < ln + 3 → u.2.2 j = p_ev g ln sr b j) (fun u => [(h0, .inr (4, [.ref u.1, .int (nI (ln + 3))])), (u.1, x_N G u.2.1 u.2.2)]) 1 3072 := by
  refine xMz.by r_Po (by decide +kernel) (Nat.le_of_ble_eq_true rfl) rfl ?_
  intro p e s m args below meth c A ls Q E B hro hl hret
  have hl : lv_has ls 3 [(0, .ref h0), (1, .int (nI sr)), (2, .int (nI b))] := hl
  refine lv_aload_n E.1 E.2.1 d_Po_add_0 rfl (lv_at hl 0 rfl) ?_
  refine x_get E B 0 rfl k_Po 1 (by decide) wd_66 rfl d_Po_add_1 ?_
  refine lv_iconst (v := nI 3) E.1 E.2.1 d_Po_add_4 (by decide) ?_
  refine x_iadd E d_Po_add_5 ?_
  refine lv_sipush (v := nI 1536) E.1 E.2.1 d_Po_add_6 (by decide) ?_
  refine x_le (tgt := 14) E d_Po_add_9 (by decide) (by omega) (by omega) (fun hx => ?_) (fun hx => ?_)
  · refine lv_aload_n E.1 E.2.1 d_Po_add_14 rfl (lv_at hl 0 rfl) ?_
    refine x_get E B 0 rfl k_Po 1 (by decide) wd_66 rfl d_Po_add_15 ?_
    refine lv_iconst (v := nI 3) E.1 E.2.1 d_Po_add_18 (by decide) ?_
    refine x_iadd E d_Po_add_19 ?_
    refine lv_aload_n E.1 E.2.1 d_Po_add_20 rfl (lv_at hl 0 rfl) ?_
    refine x_get E B 0 rfl k_Po 0 (by decide) wd_64 rfl d_Po_add_21 ?_
    refine x_alen E B 1 rfl d_Po_add_24 ?_
    refine x_le (tgt := 32) E d_Po_add_25 (by decide) (by omega) (by omega) (fun hcp => ?_) (fun hcp => ?_)
    · refine lv_aload_n E.1 E.2.1 d_Po_add_32 rfl (lv_at hl 0 rfl) ?_
      refine x_get E B 0 rfl k_Po 0 (by decide) wd_64 rfl d_Po_add_33 ?_
      refine lv_aload_n E.1 E.2.1 d_Po_add_36 rfl (lv_at hl 0 rfl) ?_
      refine x_get E B 0 rfl k_Po 1 (by decide) wd_66 rfl d_Po_add_37 ?_
      refine lv_iload_n E.1 E.2.1 d_Po_add_40 rfl (lv_at hl 1 rfl) ?_
      refine x_astN E B 1 rfl (i := ln) (v := sr) (by omega) (by omega) d_Po_add_41 (fun H locs B => ?_)
      have B : xB G A s _ _ ([(h0, .inr (4, [.ref bq, .int (nI ln)])), (bq, x_N G cp (va_up g ln sr))]) := B
      refine lv_aload_n E.1 E.2.1 d_Po_add_42 rfl (lv_at hl 0 rfl) ?_
      refine x_get E B 0 rfl k_Po 0 (by decide) wd_64 rfl d_Po_add_43 ?_
      refine lv_aload_n E.1 E.2.1 d_Po_add_46 rfl (lv_at hl 0 rfl) ?_
      refine x_get E B 0 rfl k_Po 1 (by decide) wd_66 rfl d_Po_add_47 ?_
      refine lv_iconst (v := nI 1) E.1 E.2.1 d_Po_add_50 (by decide) ?_
      refine x_iadd E d_Po_add_51 ?_
      refine lv_iconst (v := nI 1) E.1 E.2.1 d_Po_add_52 (by decide) ?_
      refine x_astN E B 1 rfl (i := ln + 1) (v := 1) (by omega) (by omega) d_Po_add_53 (fun H locs B => ?_)
      have B : xB G A s _ _ ([(h0, .inr (4, [.ref bq, .int (nI ln)])), (bq, x_N G cp (va_up (va_up g ln sr) (ln + 1) 1))]) := B
      refine lv_aload_n E.1 E.2.1 d_Po_add_54 rfl (lv_at hl 0 rfl) ?_
      refine x_get E B 0 rfl k_Po 0 (by decide) wd_64 rfl d_Po_add_55 ?_
      refine lv_aload_n E.1 E.2.1 d_Po_add_58 rfl (lv_at hl 0 rfl) ?_
      refine x_get E B 0 rfl k_Po 1 (by decide) wd_66 rfl d_Po_add_59 ?_
      refine lv_iconst (v := nI 2) E.1 E.2.1 d_Po_add_62 (by decide) ?_
      refine x_iadd E d_Po_add_63 ?_
      refine lv_iload_n E.1 E.2.1 d_Po_add_64 rfl (lv_at hl 2 rfl) ?_
      refine x_astN E B 1 rfl (i := ln + 2) (v := b) (by omega) (by omega) d_Po_add_65 (fun H locs B => ?_)
      have B : xB G A s _ _ ([(h0, .inr (4, [.ref bq, .int (nI ln)])), (bq, x_N G cp (va_up (va_up (va_up g ln sr) (ln + 1) 1) (ln + 2) b))]) := B
      refine lv_aload_n E.1 E.2.1 d_Po_add_66 rfl (lv_at hl 0 rfl) ?_
      refine lv_dup E.1 E.2.1 d_Po_add_67 rfl ?_
      refine x_get E B 0 rfl k_Po 1 (by decide) wd_66 rfl d_Po_add_68 ?_
      refine lv_iconst (v := nI 3) E.1 E.2.1 d_Po_add_71 (by decide) ?_
      refine x_iadd E d_Po_add_72 ?_
      refine x_put E B 0 rfl k_Po 1 (by decide) wd_66 rfl rfl rfl (Nat.le_of_ble_eq_true rfl) d_Po_add_73 (fun H locs B => ?_)
      have B : xB G A s _ _ ([(h0, .inr (4, [.ref bq, .int (nI (ln + 3))])), (bq, x_N G cp (va_up (va_up (va_up g ln sr) (ln + 1) 1) (ln + 2) b))]) := B
      refine lv_iconst (v := nI 1) E.1 E.2.1 d_Po_add_76 (by decide) ?_
      refine W.widen (k := 1) (n := 3072) (by omega) (by omega) ?_
      exact hret _ (bq, cp, _) _ _ _ _ B (⟨rfl, by show 12 ≤ cp; omega, by show cp ≤ 3072; omega, by show ln + 3 ≤ cp; omega, fun j hj => by first | exact p_ev_a j | exact p_ev_b j hj⟩) rfl d_Po_add_77
    · refine lv_aload_n E.1 E.2.1 d_Po_add_28 rfl (lv_at hl 0 rfl) ?_
      refine x_cv (ws' := (fun u => [(h0, .inr (4, [.ref u, .int (nI ln)])), (u, x_N G (2 * cp) (va_cpy g (fun _ => 0) 0 0 ln))])) (wr := []) B (x_rV (rest := []) E B (q_Po_grow G l h0 bq cp ln g (hlc) (by omega) _) (x_pre B [0, 1] rfl (by decide) x_ro0) 0 rfl k_Po (gg_V wd_211 wd_213 wd_1 wd_36 wd_214) ⟨rfl, p_Po_grow⟩ rfl rfl ⟨Nat.le_of_ble_eq_true rfl, Nat.le_of_ble_eq_true rfl⟩ rfl hl.1 rfl (Nat.le_of_ble_eq_true rfl) d_Po_add_29 ⟨Nat.le_of_ble_eq_true rfl, Nat.le_of_ble_eq_true rfl⟩) [0, 1] [] [0, 1] rfl rfl (by decide) (by decide) (by decide) (fun _ => rfl) (fun nq H locs hw29 B => ?_)
      have B : xB G A s _ _ ([(h0, .inr (4, [.ref nq, .int (nI ln)])), (nq, x_N G (2 * cp) (va_cpy g (fun _ => 0) 0 0 ln))]) := B
      refine lv_aload_n E.1 E.2.1 d_Po_add_32 rfl (lv_at hl 0 rfl) ?_
      refine x_get E B 0 rfl k_Po 0 (by decide) wd_64 rfl d_Po_add_33 ?_
      refine lv_aload_n E.1 E.2.1 d_Po_add_36 rfl (lv_at hl 0 rfl) ?_
      refine x_get E B 0 rfl k_Po 1 (by decide) wd_66 rfl d_Po_add_37 ?_
      refine lv_iload_n E.1 E.2.1 d_Po_add_40 rfl (lv_at hl 1 rfl) ?_
      refine x_astN E B 1 rfl (i := ln) (v := sr) (by omega) (by omega) d_Po_add_41 (fun H locs B => ?_)
      have B : xB G A s _ _ ([(h0, .inr (4, [.ref nq, .int (nI ln)])), (nq, x_N G (2 * cp) (va_up (va_cpy g (fun _ => 0) 0 0 ln) ln sr))]) := B
      refine lv_aload_n E.1 E.2.1 d_Po_add_42 rfl (lv_at hl 0 rfl) ?_
      refine x_get E B 0 rfl k_Po 0 (by decide) wd_64 rfl d_Po_add_43 ?_
      refine lv_aload_n E.1 E.2.1 d_Po_add_46 rfl (lv_at hl 0 rfl) ?_
      refine x_get E B 0 rfl k_Po 1 (by decide) wd_66 rfl d_Po_add_47 ?_
      refine lv_iconst (v := nI 1) E.1 E.2.1 d_Po_add_50 (by decide) ?_
      refine x_iadd E d_Po_add_51 ?_
      refine lv_iconst (v := nI 1) E.1 E.2.1 d_Po_add_52 (by decide) ?_
      refine x_astN E B 1 rfl (i := ln + 1) (v := 1) (by omega) (by omega) d_Po_add_53 (fun H locs B => ?_)
      have B : xB G A s _ _ ([(h0, .inr (4, [.ref nq, .int (nI ln)])), (nq, x_N G (2 * cp) (va_up (va_up (va_cpy g (fun _ => 0) 0 0 ln) ln sr) (ln + 1) 1))]) := B
      refine lv_aload_n E.1 E.2.1 d_Po_add_54 rfl (lv_at hl 0 rfl) ?_
      refine x_get E B 0 rfl k_Po 0 (by decide) wd_64 rfl d_Po_add_55 ?_
      refine lv_aload_n E.1 E.2.1 d_Po_add_58 rfl (lv_at hl 0 rfl) ?_
      refine x_get E B 0 rfl k_Po 1 (by decide) wd_66 rfl d_Po_add_59 ?_
      refine lv_iconst (v := nI 2) E.1 E.2.1 d_Po_add_62 (by decide) ?_
      refine x_iadd E d_Po_add_63 ?_
      refine lv_iload_n E.1 E.2.1 d_Po_add_64 rfl (lv_at hl 2 rfl) ?_
      refine x_astN E B 1 rfl (i := ln + 2) (v := b) (by omega) (by omega) d_Po_add_65 (fun H locs B => ?_)
      have B : xB G A s _ _ ([(h0, .inr (4, [.ref nq, .int (nI ln)])), (nq, x_N G (2 * cp) (va_up (va_up (va_up (va_cpy g (fun _ => 0) 0 0 ln) ln sr) (ln + 1) 1) (ln + 2) b))]) := B
      refine lv_aload_n E.1 E.2.1 d_Po_add_66 rfl (lv_at hl 0 rfl) ?_
      refine lv_dup E.1 E.2.1 d_Po_add_67 rfl ?_
      refine x_get E B 0 rfl k_Po 1 (by decide) wd_66 rfl d_Po_add_68 ?_
      refine lv_iconst (v := nI 3) E.1 E.2.1 d_Po_add_71 (by decide) ?_
      refine x_iadd E d_Po_add_72 ?_
      refine x_put E B 0 rfl k_Po 1 (by decide) wd_66 rfl rfl rfl (Nat.le_of_ble_eq_true rfl) d_Po_add_73 (fun H locs B => ?_)
      have B : xB G A s _ _ ([(h0, .inr (4, [.ref nq, .int (nI (ln + 3))])), (nq, x_N G (2 * cp) (va_up (va_up (va_up (va_cpy g (fun _ => 0) 0 0 ln) ln sr) (ln + 1) 1) (ln + 2) b))]) := B
      refine lv_iconst (v := nI 1) E.1 E.2.1 d_Po_add_76 (by decide) ?_
      exact hret _ (nq, 2 * cp, _) _ _ _ _ B (⟨rfl, by show 12 ≤ 2 * cp; omega, by show 2 * cp ≤ 3072; omega, by show ln + 3 ≤ 2 * cp; omega, fun j hj => by first | exact p_ev_a j | exact p_ev_b j hj⟩) rfl d_Po_add_77
  · exfalso; omega
end
section
set_option maxHeartbeats 4000000 in
set_option maxRecDepth 100000 in
theorem q_Ge_isSeeded (G : xG) (l : Launch) (h0 kq cq pq dq e0 rq tq rs : Nat) (ck lt : Int32) (ctr : Nat → Nat) (hb : g_bt 16 ctr) : xMr G l y_Ge_isSeeded c_Ge_isSeeded 2 .boolean ({ frames := 0, cells := 0, slots := 0, locals := 0 }) [.ref h0] [] [(h0, .inr (3, [.ref kq, .ref cq, .ref pq, .int (nI rs), .int ck, .int lt, .ref dq, .ref e0, .ref rq, .ref tq])), (cq, x_N G 16 ctr)] (nI (g_sd ctr)) := by
  refine xMrz.by r_Ge (by decide +kernel) (Nat.le_of_ble_eq_true rfl) rfl ?_
  intro p e s m args below meth c A ls Q E B hro hl hret
  have hl : lv_has ls 2 [(0, .ref h0)] := hl
  refine lv_iconst (v := nI 0) E.1 E.2.1 d_Ge_isSeeded_0 (by decide) ?_
  refine lv_istore_n (lv' := [(1, .int (nI 0)), (0, .ref h0)]) E.1 E.2.1 d_Ge_isSeeded_1 rfl hl (by decide) rfl (fun ls hl => ?_)
  have hL2 : ∀ (kf : Nat) (i : Nat), 16 - i < kf → (i ≤ 16) → (∀ j, j < i → ctr j = 0) → ∀ (ls : Array Slot), lv_has ls 2 [(1, .int (nI i)), (0, .ref h0)] → W p l e ({ frames := 0, cells := 0, slots := 0, locals := 0 }) s m args below meth c s.heap [] 0 0 Q (F0 m 2 ls []) := by
    intro k2
    induction k2 with
    | zero =>
      intro i hk
      exact absurd hk (Nat.not_lt_zero _)
    | succ k2 ih2 =>
      intro i hk2 hi hz ls hl
      refine lv_iload_n E.1 E.2.1 d_Ge_isSeeded_2 rfl (lv_at hl 0 rfl) ?_
      refine lv_bipush (v := nI 16) E.1 E.2.1 d_Ge_isSeeded_3 (by decide) ?_
      refine x_ge (tgt := 25) E d_Ge_isSeeded_5 (by decide) (by omega) (by omega) (fun c1 => ?_) (fun c1 => ?_)
      · refine lv_iconst (v := nI 0) E.1 E.2.1 d_Ge_isSeeded_25 (by decide) ?_
        exact hret _ _ _ (by rw [g_sd_0 (fun j hj => hz j (by omega))]) rfl d_Ge_isSeeded_26
      · refine lv_aload_n E.1 E.2.1 d_Ge_isSeeded_8 rfl (lv_at hl 1 rfl) ?_
        refine x_get E B 0 rfl k_Ge 1 (by decide) wd_111 rfl d_Ge_isSeeded_9 ?_
        refine lv_iload_n E.1 E.2.1 d_Ge_isSeeded_12 rfl (lv_at hl 0 rfl) ?_
        refine x_aldN E B 1 rfl (i := i) (by omega) (by decide) d_Ge_isSeeded_13 ?_
        refine x_if0 (tgt := 19) E d_Ge_isSeeded_14 (by decide) (by have := hb i (by omega); omega) (fun hz1 => ?_) (fun hz1 => ?_)
        · refine x_inc E 1 (lv' := [(1, .int (nI (i + 1))), (0, .ref h0)]) d_Ge_isSeeded_19 hl (k := 0) rfl rfl (by decide) rfl (fun ls hl => ?_)
          refine lv_goto (tgt := 2) E.1 E.2.1 d_Ge_isSeeded_22 (by decide) ?_
          exact ih2  (i + 1) (by omega) (by omega) (lt_s hz hz1) _ (lv_sub hl [0, 1] rfl)
        · refine lv_iconst (v := nI 1) E.1 E.2.1 d_Ge_isSeeded_17 (by decide) ?_
          exact hret _ _ _ (by rw [g_sd_1 (by omega) hz1]) rfl d_Ge_isSeeded_18
  exact hL2 (17) 0 (by omega) (by omega) (fun j hj => absurd hj (Nat.not_lt_zero j)) _ (lv_sub hl [0, 1] rfl)
set_option maxHeartbeats 4000000 in
set_option maxRecDepth 100000 in
theorem q_Ge_passTime (G : xG) (l : Launch) (h0 kq cq pq dq e0 rq tq rs : Nat) (ck lt : Int32) (ms : Int32)  : xMi G l y_Ge_passTime c_Ge_passTime 2 .int ({ frames := 0, cells := 0, slots := 0, locals := 0 }) [.ref h0, .int ms] [] [(h0, .inr (3, [.ref kq, .ref cq, .ref pq, .int (nI rs), .int ck, .int lt, .ref dq, .ref e0, .ref rq, .ref tq]))] Unit (fun r _ => r = c_pt ck ms) (fun u => [(h0, .inr (3, [.ref kq, .ref cq, .ref pq, .int (nI rs), .int (c_pt ck ms), .int lt, .ref dq, .ref e0, .ref rq, .ref tq]))]) 0 0 := by
  refine xMi.by r_Ge (by decide +kernel) (Nat.le_of_ble_eq_true rfl) rfl ?_
  intro p e s m args below meth c A ls Q E B hro hl hret
  have hl : lv_has ls 2 [(0, .ref h0), (1, .int ms)] := hl
  refine lv_iload_n E.1 E.2.1 d_Ge_passTime_0 rfl (lv_at hl 1 rfl) ?_
  refine lv_if_le (tgt := 25) E.1 E.2.1 d_Ge_passTime_1 (by decide) (fun h1 => ?_) (fun h1 => ?_)
  · have B := B.eq ([(h0, .inr (3, [.ref kq, .ref cq, .ref pq, .int (nI rs), .int (c_pt ck ms), .int lt, .ref dq, .ref e0, .ref rq, .ref tq]))]) (by first | rw [c_pt_y h1 h2] | rw [c_pt_b h2] | rw [c_pt_a h1])
    refine lv_aload_n E.1 E.2.1 d_Ge_passTime_25 rfl (lv_at hl 0 rfl) ?_
    refine x_get E B 0 rfl k_Ge 4 (by decide) wd_117 rfl d_Ge_passTime_26 ?_
    exact hret _ () _ _ _ _ B (rfl) d_Ge_passTime_29
  · refine lv_iload_n E.1 E.2.1 d_Ge_passTime_4 rfl (lv_at hl 1 rfl) ?_
    refine lv_ldc E.1 E.2.1 E.2.2.2.1 (E.2.2.2.2 _ wd_226) d_Ge_passTime_5 ?_
    refine lv_aload_n E.1 E.2.1 d_Ge_passTime_7 rfl (lv_at hl 0 rfl) ?_
    refine x_get E B 0 rfl k_Ge 4 (by decide) wd_117 rfl d_Ge_passTime_8 ?_
    refine lv_isub E.1 E.2.1 d_Ge_passTime_11 ?_
    refine lv_icmp_gt (tgt := 25) E.1 E.2.1 d_Ge_passTime_12 (by decide) (fun h2 => ?_) (fun h2 => ?_)
    · have B := B.eq ([(h0, .inr (3, [.ref kq, .ref cq, .ref pq, .int (nI rs), .int (c_pt ck ms), .int lt, .ref dq, .ref e0, .ref rq, .ref tq]))]) (by first | rw [c_pt_y h1 h2] | rw [c_pt_b h2] | rw [c_pt_a h1])
      refine lv_aload_n E.1 E.2.1 d_Ge_passTime_25 rfl (lv_at hl 0 rfl) ?_
      refine x_get E B 0 rfl k_Ge 4 (by decide) wd_117 rfl d_Ge_passTime_26 ?_
      exact hret _ () _ _ _ _ B (rfl) d_Ge_passTime_29
    · refine lv_aload_n E.1 E.2.1 d_Ge_passTime_15 rfl (lv_at hl 0 rfl) ?_
      refine lv_dup E.1 E.2.1 d_Ge_passTime_16 rfl ?_
      refine x_get E B 0 rfl k_Ge 4 (by decide) wd_117 rfl d_Ge_passTime_17 ?_
      refine lv_iload_n E.1 E.2.1 d_Ge_passTime_20 rfl (lv_at hl 1 rfl) ?_
      refine lv_iadd E.1 E.2.1 d_Ge_passTime_21 ?_
      refine x_put E B 0 rfl k_Ge 4 (by decide) wd_117 rfl rfl rfl (Nat.le_of_ble_eq_true rfl) d_Ge_passTime_22 (fun H locs B => ?_)
      have B : xB G A s _ _ ([(h0, .inr (3, [.ref kq, .ref cq, .ref pq, .int (nI rs), .int (ck + ms), .int lt, .ref dq, .ref e0, .ref rq, .ref tq]))]) := B
      have B := B.eq ([(h0, .inr (3, [.ref kq, .ref cq, .ref pq, .int (nI rs), .int (c_pt ck ms), .int lt, .ref dq, .ref e0, .ref rq, .ref tq]))]) (by first | rw [c_pt_y h1 h2] | rw [c_pt_b h2] | rw [c_pt_a h1])
      refine lv_aload_n E.1 E.2.1 d_Ge_passTime_25 rfl (lv_at hl 0 rfl) ?_
      refine x_get E B 0 rfl k_Ge 4 (by decide) wd_117 rfl d_Ge_passTime_26 ?_
      exact hret _ () _ _ _ _ B (rfl) d_Ge_passTime_29
set_option maxHeartbeats 4000000 in
set_option maxRecDepth 100000 in
theorem q_Ge_isDrawingDue (G : xG) (l : Launch) (h0 kq cq pq dq e0 rq tq rs : Nat) (ck lt : Int32) (pa ba cap len : Nat → Nat) (pb : Nat → Nat → Nat) (hl0 : len 0 < 100000) : xMr G l y_Ge_isDrawingDue c_Ge_isDrawingDue 1 .boolean ({ frames := 0, cells := 0, slots := 0, locals := 0 }) [.ref h0] [] ([(h0, .inr (3, [.ref kq, .ref cq, .ref pq, .int (nI rs), .int ck, .int lt, .ref dq, .ref e0, .ref rq, .ref tq])), (pq, x_Q G 32 (fun j => some (pa j)))] ++ x_pl G pa ba cap len pb) (nI (c_du (len 0) ck lt)) := by
  refine xMrz.by r_Ge (by decide +kernel) (Nat.le_of_ble_eq_true rfl) rfl ?_
  intro p e s m args below meth c A ls Q E B hro hl hret
  have hl : lv_has ls 1 [(0, .ref h0)] := hl
  refine lv_aload_n E.1 E.2.1 d_Ge_isDrawingDue_0 rfl (lv_at hl 0 rfl) ?_
  refine x_get E B 0 rfl k_Ge 2 (by decide) wd_113 rfl d_Ge_isDrawingDue_1 ?_
  refine lv_iconst (v := nI 0) E.1 E.2.1 d_Ge_isDrawingDue_4 (by decide) ?_
  refine x_aldp E B 1 rfl (i := 0) (by omega) (by decide) d_Ge_isDrawingDue_5 ?_
  refine x_getL (N := 2) E rfl B (j := 0) (by omega) wd_67 d_Ge_isDrawingDue_6 ?_
  refine lv_bipush (v := nI 32) E.1 E.2.1 d_Ge_isDrawingDue_9 (by decide) ?_
  refine x_lt (tgt := 40) E d_Ge_isDrawingDue_11 (by decide) (by omega) (by omega) (fun h1 => ?_) (fun h1 => ?_)
  · refine lv_iconst (v := nI 0) E.1 E.2.1 d_Ge_isDrawingDue_40 (by decide) ?_
    exact hret _ _ _ (by first | exact c_du_0 h1 | exact c_du_1 h1 h2 | exact c_du_2 h1 h3 | exact c_du_3 h2 h3) rfl d_Ge_isDrawingDue_41
  · refine lv_aload_n E.1 E.2.1 d_Ge_isDrawingDue_14 rfl (lv_at hl 0 rfl) ?_
    refine x_get E B 0 rfl k_Ge 5 (by decide) wd_119 rfl d_Ge_isDrawingDue_15 ?_
    refine lv_iconst (v := -1) E.1 E.2.1 d_Ge_isDrawingDue_18 (by decide) ?_
    refine lv_icmp_eq (tgt := 36) E.1 E.2.1 d_Ge_isDrawingDue_19 (by decide) (fun h2 => ?_) (fun h2 => ?_)
    · refine lv_iconst (v := nI 1) E.1 E.2.1 d_Ge_isDrawingDue_36 (by decide) ?_
      refine lv_goto (tgt := 41) E.1 E.2.1 d_Ge_isDrawingDue_37 (by decide) ?_
      exact hret _ _ _ (by first | exact c_du_0 h1 | exact c_du_1 h1 h2 | exact c_du_2 h1 h3 | exact c_du_3 h2 h3) rfl d_Ge_isDrawingDue_41
    · refine lv_aload_n E.1 E.2.1 d_Ge_isDrawingDue_22 rfl (lv_at hl 0 rfl) ?_
      refine x_get E B 0 rfl k_Ge 4 (by decide) wd_117 rfl d_Ge_isDrawingDue_23 ?_
      refine lv_aload_n E.1 E.2.1 d_Ge_isDrawingDue_26 rfl (lv_at hl 0 rfl) ?_
      refine x_get E B 0 rfl k_Ge 5 (by decide) wd_119 rfl d_Ge_isDrawingDue_27 ?_
      refine lv_isub E.1 E.2.1 d_Ge_isDrawingDue_30 ?_
      refine lv_bipush (v := nI 100) E.1 E.2.1 d_Ge_isDrawingDue_31 (by decide) ?_
      refine lv_icmp_lt (tgt := 40) E.1 E.2.1 d_Ge_isDrawingDue_33 (by decide) (fun h3 => ?_) (fun h3 => ?_)
      · refine lv_iconst (v := nI 0) E.1 E.2.1 d_Ge_isDrawingDue_40 (by decide) ?_
        exact hret _ _ _ (by first | exact c_du_0 h1 | exact c_du_1 h1 h2 | exact c_du_2 h1 h3 | exact c_du_3 h2 h3) rfl d_Ge_isDrawingDue_41
      · refine lv_iconst (v := nI 1) E.1 E.2.1 d_Ge_isDrawingDue_36 (by decide) ?_
        refine lv_goto (tgt := 41) E.1 E.2.1 d_Ge_isDrawingDue_37 (by decide) ?_
        exact hret _ _ _ (by first | exact c_du_0 h1 | exact c_du_1 h1 h2 | exact c_du_2 h1 h3 | exact c_du_3 h2 h3) rfl d_Ge_isDrawingDue_41
set_option maxHeartbeats 4000000 in
set_option maxRecDepth 100000 in
theorem q_Ge_countOn (G : xG) (l : Launch) (h0 kq cq pq dq e0 rq tq rs : Nat) (ck lt : Int32) (ctr : Nat → Nat) (hb : g_bt 16 ctr) : xMv G l y_Ge_countOn c_Ge_countOn 2 ({ frames := 0, cells := 0, slots := 0, locals := 0 }) [.ref h0] [] [(h0, .inr (3, [.ref kq, .ref cq, .ref pq, .int (nI rs), .int ck, .int lt, .ref dq, .ref e0, .ref rq, .ref tq])), (cq, x_N G 16 ctr)] Unit (fun _ => True) (fun u => [(h0, .inr (3, [.ref kq, .ref cq, .ref pq, .int (nI rs), .int ck, .int lt, .ref dq, .ref e0, .ref rq, .ref tq])), (cq, x_N G 16 (g_ct ctr))]) 0 0 := by
  refine xMv.by r_Ge (by decide +kernel) (Nat.le_of_ble_eq_true rfl) rfl ?_
  intro p e s m args below meth c A ls Q E hin B hro hl hret
  have hl : lv_has ls 2 [(0, .ref h0)] := hl
  refine lv_iconst (v := nI 0) E.1 E.2.1 d_Ge_countOn_0 (by decide) ?_
  refine lv_istore_n (lv' := [(1, .int (nI 0)), (0, .ref h0)]) E.1 E.2.1 d_Ge_countOn_1 rfl hl (by decide) rfl (fun ls hl => ?_)
  have hL2 : ∀ (kf : Nat) (i : Nat), 16 - i < kf → (g_cE ctr i) → ∀ (H : Heap) (locs : List Loc) (ls : Array Slot), xB G A s H locs ([(h0, .inr (3, [.ref kq, .ref cq, .ref pq, .int (nI rs), .int ck, .int lt, .ref dq, .ref e0, .ref rq, .ref tq])), (cq, x_N G 16 (mx i (fun _ => 0) ctr))]) → lv_has ls 2 [(1, .int (nI i)), (0, .ref h0)] → W p l e ({ frames := 0, cells := 0, slots := 0, locals := 0 }) s m args below meth c H locs 0 0 Q (F0 m 2 ls []) := by
    intro k2
    induction k2 with
    | zero =>
      intro i hk
      exact absurd hk (Nat.not_lt_zero _)
    | succ k2 ih2 =>
      intro i hk2 hE H locs ls B hl
      have hi := hE.1
      refine lv_iload_n E.1 E.2.1 d_Ge_countOn_2 rfl (lv_at hl 0 rfl) ?_
      refine lv_bipush (v := nI 16) E.1 E.2.1 d_Ge_countOn_3 (by decide) ?_
      refine x_ge (tgt := 42) E d_Ge_countOn_5 (by decide) (by omega) (by omega) (fun c1 => ?_) (fun c1 => ?_)
      · obtain rfl : i = 16 := by have := hE.1; omega
        have B := B.fn 1 rfl (nA (g_ct ctr)) (g_ctX hE)
        have B : xB G A s _ _ ([(h0, .inr (3, [.ref kq, .ref cq, .ref pq, .int (nI rs), .int ck, .int lt, .ref dq, .ref e0, .ref rq, .ref tq])), (cq, x_N G 16 (g_ct ctr))]) := B
        exact hret () _ _ _ _ B trivial d_Ge_countOn_42
      · refine lv_aload_n E.1 E.2.1 d_Ge_countOn_8 rfl (lv_at hl 1 rfl) ?_
        refine x_get E B 0 rfl k_Ge 1 (by decide) wd_111 rfl d_Ge_countOn_9 ?_
        refine lv_iload_n E.1 E.2.1 d_Ge_countOn_12 rfl (lv_at hl 0 rfl) ?_
        refine lv_aload_n E.1 E.2.1 d_Ge_countOn_13 rfl (lv_at hl 1 rfl) ?_
        refine x_get E B 0 rfl k_Ge 1 (by decide) wd_111 rfl d_Ge_countOn_14 ?_
        refine lv_iload_n E.1 E.2.1 d_Ge_countOn_17 rfl (lv_at hl 0 rfl) ?_
        refine x_aldN E B 1 rfl (i := i) (by omega) (by decide) d_Ge_countOn_18 ?_
        refine x_top (show nI ((mx i (fun _ => 0) ctr) i) = nI (ctr i) from congrArg nI (by exact mx_ge (Nat.le_refl i))) ?_
        refine lv_iconst (v := nI 1) E.1 E.2.1 d_Ge_countOn_19 (by decide) ?_
        refine x_iadd E d_Ge_countOn_20 ?_
        refine lv_sipush (v := nI 255) E.1 E.2.1 d_Ge_countOn_21 (by decide) ?_
        refine lv_iand E.1 E.2.1 d_Ge_countOn_24 ?_
        refine x_top (v' := nI ((ctr i + 1) % 256)) (b_255 (by have := hb i (by omega); omega)) ?_
        refine x_astN E B 1 rfl (i := i) (v := (ctr i + 1) % 256) (by omega) (by decide) d_Ge_countOn_25 (fun H locs B => ?_)
        have B : xB G A s _ _ ([(h0, .inr (3, [.ref kq, .ref cq, .ref pq, .int (nI rs), .int ck, .int lt, .ref dq, .ref e0, .ref rq, .ref tq])), (cq, x_N G 16 (va_up (mx i (fun _ => 0) ctr) i ((ctr i + 1) % 256)))]) := B
        refine lv_aload_n E.1 E.2.1 d_Ge_countOn_26 rfl (lv_at hl 1 rfl) ?_
        refine x_get E B 0 rfl k_Ge 1 (by decide) wd_111 rfl d_Ge_countOn_27 ?_
        refine lv_iload_n E.1 E.2.1 d_Ge_countOn_30 rfl (lv_at hl 0 rfl) ?_
        refine x_aldN E B 1 rfl (i := i) (by omega) (by decide) d_Ge_countOn_31 ?_
        refine x_top (show nI ((va_up (mx i (fun _ => 0) ctr) i ((ctr i + 1) % 256)) i) = nI ((ctr i + 1) % 256) from congrArg nI (by exact va_up_self _ _ _)) ?_
        refine x_if0 (tgt := 36) E d_Ge_countOn_32 (by decide) (by omega) (fun hz => ?_) (fun hz => ?_)
        · have B := B.fn 1 rfl (nA (mx (i + 1) (fun _ => 0) ctr)) (mx_fn hz)
          have B : xB G A s _ _ ([(h0, .inr (3, [.ref kq, .ref cq, .ref pq, .int (nI rs), .int ck, .int lt, .ref dq, .ref e0, .ref rq, .ref tq])), (cq, x_N G 16 (mx (i + 1) (fun _ => 0) ctr))]) := B
          refine x_inc E 1 (lv' := [(1, .int (nI (i + 1))), (0, .ref h0)]) d_Ge_countOn_36 hl (k := 0) rfl rfl (by decide) rfl (fun ls hl => ?_)
          refine lv_goto (tgt := 2) E.1 E.2.1 d_Ge_countOn_39 (by decide) ?_
          exact ih2  (i + 1) (by omega) (g_cE_y hE (by omega) (by have := hb i (by omega); omega)) _ _ _ B (lv_sub hl [0, 1] rfl)
        · have B := B.fn 1 rfl (nA (g_ct ctr)) (g_ctR hE (by omega) (hb i (by omega)) hz)
          have B : xB G A s _ _ ([(h0, .inr (3, [.ref kq, .ref cq, .ref pq, .int (nI rs), .int ck, .int lt, .ref dq, .ref e0, .ref rq, .ref tq])), (cq, x_N G 16 (g_ct ctr))]) := B
          exact hret () _ _ _ _ B trivial d_Ge_countOn_35
  have B := B.fn 1 rfl (nA (mx 0 (fun _ => 0) ctr)) (mx_z _ _)
  have B : xB G A s _ _ ([(h0, .inr (3, [.ref kq, .ref cq, .ref pq, .int (nI rs), .int ck, .int lt, .ref dq, .ref e0, .ref rq, .ref tq])), (cq, x_N G 16 (mx 0 (fun _ => 0) ctr))]) := B
  exact hL2 (17) 0 (by omega) (g_cE_0 ctr) _ _ _ B (lv_sub hl [0, 1] rfl)
set_option maxHeartbeats 4000000 in
set_option maxRecDepth 100000 in
theorem q_Ge_reseed (G : xG) (l : Launch) (h0 kq cq pq dq e0 rq tq rs : Nat) (ck lt : Int32) (d1 d2 d3 : Nat) (Hf w0 : Nat → Int32) (go : Nat → Nat) (end_ : Nat) (key ctr rr tt : Nat → Nat) (he : end_ ≤ 1040) (hf : ∀ j, j < end_ → va_cpy key rr 0 0 16 j < 256) (hb : g_bt 16 ctr) : xMv G l y_Ge_reseed c_Ge_reseed 2 ({ frames := 4, cells := 0, slots := 0, locals := 108 }) [.ref h0, .int (nI end_)] [] [(h0, .inr (3, [.ref kq, .ref cq, .ref pq, .int (nI rs), .int ck, .int lt, .ref dq, .ref e0, .ref rq, .ref tq])), (kq, x_N G 16 key), (cq, x_N G 16 ctr), (dq, .inr (1, [.ref d1, .ref d2, .ref d3])), (d1, x_I G 8 Hf), (d2, x_I G 64 w0), (d3, x_N G 32 go), (rq, x_N G 1040 rr), (tq, x_N G 32 tt)] ((Nat → Int32) × (Nat → Int32)) (fun _ => True) (fun u => [(h0, .inr (3, [.ref kq, .ref cq, .ref pq, .int (nI rs), .int ck, .int lt, .ref dq, .ref e0, .ref rq, .ref tq])), (kq, x_N G 16 (h_tw (va_cpy key rr 0 0 16) end_)), (cq, x_N G 16 (g_ct ctr)), (dq, .inr (1, [.ref d1, .ref d2, .ref d3])), (d1, x_I G 8 u.1), (d2, x_I G 64 u.2), (d3, x_N G 32 (h_dg (va_cpy key rr 0 0 16) end_)), (rq, x_N G 1040 (va_cpy key rr 0 0 16)), (tq, x_N G 32 (h_tw (va_cpy key rr 0 0 16) end_))]) 0 0 := by
  refine xMv.by r_Ge (by decide +kernel) (Nat.le_of_ble_eq_true rfl) rfl ?_
  intro p e s m args below meth c A ls Q E hin B hro hl hret
  have hl : lv_has ls 2 [(0, .ref h0), (1, .int (nI end_))] := hl
  refine lv_aload_n E.1 E.2.1 d_Ge_reseed_0 rfl (lv_at hl 0 rfl) ?_
  refine x_get E B 0 rfl k_Ge 0 (by decide) wd_109 rfl d_Ge_reseed_1 ?_
  refine lv_iconst (v := nI 0) E.1 E.2.1 d_Ge_reseed_4 (by decide) ?_
  refine lv_aload_n E.1 E.2.1 d_Ge_reseed_5 rfl (lv_at hl 0 rfl) ?_
  refine x_get E B 0 rfl k_Ge 8 (by decide) wd_123 rfl d_Ge_reseed_6 ?_
  refine lv_iconst (v := nI 0) E.1 E.2.1 d_Ge_reseed_9 (by decide) ?_
  refine lv_bipush (v := nI 16) E.1 E.2.1 d_Ge_reseed_10 (by decide) ?_
  refine x_cpy E B wd_280 wd_217 wd_216 wd_41 1 7 (sp := 0) (dp := 0) (n := 16) rfl rfl (by omega) (by omega) (by decide) (by decide) hl.1 (Nat.le_of_ble_eq_true rfl) (Nat.le_of_ble_eq_true rfl) d_Ge_reseed_12 (fun H locs B => ?_)
  rw [x_cpN] at B
  have B : xB G A s _ _ ([(h0, .inr (3, [.ref kq, .ref cq, .ref pq, .int (nI rs), .int ck, .int lt, .ref dq, .ref e0, .ref rq, .ref tq])), (kq, x_N G 16 key), (cq, x_N G 16 ctr), (dq, .inr (1, [.ref d1, .ref d2, .ref d3])), (d1, x_I G 8 Hf), (d2, x_I G 64 w0), (d3, x_N G 32 go), (rq, x_N G 1040 (va_cpy key rr 0 0 16)), (tq, x_N G 32 tt)]) := B
  refine lv_aload_n E.1 E.2.1 d_Ge_reseed_15 rfl (lv_at hl 0 rfl) ?_
  refine x_get E B 0 rfl k_Ge 6 (by decide) wd_121 rfl d_Ge_reseed_16 ?_
  refine lv_aload_n E.1 E.2.1 d_Ge_reseed_19 rfl (lv_at hl 0 rfl) ?_
  refine x_get E B 0 rfl k_Ge 8 (by decide) wd_123 rfl d_Ge_reseed_20 ?_
  refine lv_iload_n E.1 E.2.1 d_Ge_reseed_23 rfl (lv_at hl 1 rfl) ?_
  refine lv_aload_n E.1 E.2.1 d_Ge_reseed_24 rfl (lv_at hl 0 rfl) ?_
  refine x_get E B 0 rfl k_Ge 9 (by decide) wd_124 rfl d_Ge_reseed_25 ?_
  refine lv_iconst (v := nI 0) E.1 E.2.1 d_Ge_reseed_28 (by decide) ?_
  refine x_cv (ws' := (fun u => [(h0, .inr (3, [.ref kq, .ref cq, .ref pq, .int (nI rs), .int ck, .int lt, .ref dq, .ref e0, .ref rq, .ref tq])), (kq, x_N G 16 key), (cq, x_N G 16 ctr), (dq, .inr (1, [.ref d1, .ref d2, .ref d3])), (d1, x_I G 8 u.1), (d2, x_I G 64 u.2), (d3, x_N G 32 (h_dg (va_cpy key rr 0 0 16) end_)), (rq, x_N G 1040 (va_cpy key rr 0 0 16)), (tq, x_N G 32 (va_cpy (h_tw (va_cpy key rr 0 0 16) end_) tt 0 0 32))])) (wr := [(h0, .inr (3, [.ref kq, .ref cq, .ref pq, .int (nI rs), .int ck, .int lt, .ref dq, .ref e0, .ref rq, .ref tq])), (kq, x_N G 16 key), (cq, x_N G 16 ctr), (rq, x_N G 1040 (va_cpy key rr 0 0 16))]) B (x_rV (rest := []) E B (q_Dg_twice G l dq d1 d2 d3 rq 1040 end_ tq 32 0 (va_cpy key rr 0 0 16) go tt Hf w0 (by omega) (by omega) (hf) (by omega) (by omega) _) (x_pre B [3, 4, 5, 6, 8] rfl (by decide) (x_ro1 (x_ro_w B 7 rfl [3, 4, 5, 6, 8] rfl (by decide)))) 3 rfl k_Dg (gg_V wd_242 wd_243 wd_244 wd_37 wd_245) ⟨rfl, p_Dg_twice⟩ rfl rfl ⟨Nat.le_of_ble_eq_true rfl, Nat.le_of_ble_eq_true rfl⟩ rfl hl.1 rfl (Nat.le_of_ble_eq_true rfl) d_Ge_reseed_29 ⟨Nat.le_of_ble_eq_true rfl, Nat.le_of_ble_eq_true rfl⟩) [3, 4, 5, 6, 8] [0, 1, 2, 7] [0, 1, 2, 4, 5, 6, 7, 3, 8] rfl rfl (by decide) (by decide) (by decide) (fun _ => rfl) (fun u29 H locs hw29 B => ?_)
  have B : xB G A s _ _ ([(h0, .inr (3, [.ref kq, .ref cq, .ref pq, .int (nI rs), .int ck, .int lt, .ref dq, .ref e0, .ref rq, .ref tq])), (kq, x_N G 16 key), (cq, x_N G 16 ctr), (dq, .inr (1, [.ref d1, .ref d2, .ref d3])), (d1, x_I G 8 u29.1), (d2, x_I G 64 u29.2), (d3, x_N G 32 (h_dg (va_cpy key rr 0 0 16) end_)), (rq, x_N G 1040 (va_cpy key rr 0 0 16)), (tq, x_N G 32 (va_cpy (h_tw (va_cpy key rr 0 0 16) end_) tt 0 0 32))]) := B
  have B := B.fn 8 rfl (nA (h_tw (va_cpy key rr 0 0 16) end_)) (cp_0)
  have B : xB G A s _ _ ([(h0, .inr (3, [.ref kq, .ref cq, .ref pq, .int (nI rs), .int ck, .int lt, .ref dq, .ref e0, .ref rq, .ref tq])), (kq, x_N G 16 key), (cq, x_N G 16 ctr), (dq, .inr (1, [.ref d1, .ref d2, .ref d3])), (d1, x_I G 8 u29.1), (d2, x_I G 64 u29.2), (d3, x_N G 32 (h_dg (va_cpy key rr 0 0 16) end_)), (rq, x_N G 1040 (va_cpy key rr 0 0 16)), (tq, x_N G 32 (h_tw (va_cpy key rr 0 0 16) end_))]) := B
  refine lv_aload_n E.1 E.2.1 d_Ge_reseed_32 rfl (lv_at hl 0 rfl) ?_
  refine x_get E B 0 rfl k_Ge 9 (by decide) wd_124 rfl d_Ge_reseed_33 ?_
  refine lv_iconst (v := nI 0) E.1 E.2.1 d_Ge_reseed_36 (by decide) ?_
  refine lv_aload_n E.1 E.2.1 d_Ge_reseed_37 rfl (lv_at hl 0 rfl) ?_
  refine x_get E B 0 rfl k_Ge 0 (by decide) wd_109 rfl d_Ge_reseed_38 ?_
  refine lv_iconst (v := nI 0) E.1 E.2.1 d_Ge_reseed_41 (by decide) ?_
  refine lv_bipush (v := nI 16) E.1 E.2.1 d_Ge_reseed_42 (by decide) ?_
  refine x_cpy E B wd_280 wd_217 wd_216 wd_41 8 1 (sp := 0) (dp := 0) (n := 16) rfl rfl (by omega) (by omega) (by decide) (by decide) hl.1 (Nat.le_of_ble_eq_true rfl) (Nat.le_of_ble_eq_true rfl) d_Ge_reseed_44 (fun H locs B => ?_)
  rw [x_cpN] at B
  have B : xB G A s _ _ ([(h0, .inr (3, [.ref kq, .ref cq, .ref pq, .int (nI rs), .int ck, .int lt, .ref dq, .ref e0, .ref rq, .ref tq])), (kq, x_N G 16 (va_cpy (h_tw (va_cpy key rr 0 0 16) end_) key 0 0 16)), (cq, x_N G 16 ctr), (dq, .inr (1, [.ref d1, .ref d2, .ref d3])), (d1, x_I G 8 u29.1), (d2, x_I G 64 u29.2), (d3, x_N G 32 (h_dg (va_cpy key rr 0 0 16) end_)), (rq, x_N G 1040 (va_cpy key rr 0 0 16)), (tq, x_N G 32 (h_tw (va_cpy key rr 0 0 16) end_))]) := B
  have B := B.fn 1 rfl (nA (h_tw (va_cpy key rr 0 0 16) end_)) (cp_0)
  have B : xB G A s _ _ ([(h0, .inr (3, [.ref kq, .ref cq, .ref pq, .int (nI rs), .int ck, .int lt, .ref dq, .ref e0, .ref rq, .ref tq])), (kq, x_N G 16 (h_tw (va_cpy key rr 0 0 16) end_)), (cq, x_N G 16 ctr), (dq, .inr (1, [.ref d1, .ref d2, .ref d3])), (d1, x_I G 8 u29.1), (d2, x_I G 64 u29.2), (d3, x_N G 32 (h_dg (va_cpy key rr 0 0 16) end_)), (rq, x_N G 1040 (va_cpy key rr 0 0 16)), (tq, x_N G 32 (h_tw (va_cpy key rr 0 0 16) end_))]) := B
  refine lv_aload_n E.1 E.2.1 d_Ge_reseed_47 rfl (lv_at hl 0 rfl) ?_
  refine x_cv (ws' := (fun u => [(h0, .inr (3, [.ref kq, .ref cq, .ref pq, .int (nI rs), .int ck, .int lt, .ref dq, .ref e0, .ref rq, .ref tq])), (kq, x_N G 16 (h_tw (va_cpy key rr 0 0 16) end_)), (cq, x_N G 16 (g_ct ctr)), (dq, .inr (1, [.ref d1, .ref d2, .ref d3])), (d1, x_I G 8 u29.1), (d2, x_I G 64 u29.2), (d3, x_N G 32 (h_dg (va_cpy key rr 0 0 16) end_)), (rq, x_N G 1040 (va_cpy key rr 0 0 16)), (tq, x_N G 32 (h_tw (va_cpy key rr 0 0 16) end_))])) (wr := [(kq, x_N G 16 (h_tw (va_cpy key rr 0 0 16) end_)), (dq, .inr (1, [.ref d1, .ref d2, .ref d3])), (d1, x_I G 8 u29.1), (d2, x_I G 64 u29.2), (d3, x_N G 32 (h_dg (va_cpy key rr 0 0 16) end_)), (rq, x_N G 1040 (va_cpy key rr 0 0 16)), (tq, x_N G 32 (h_tw (va_cpy key rr 0 0 16) end_))]) B (x_rV (rest := []) E B (q_Ge_countOn G l h0 kq cq pq dq e0 rq tq rs ck lt ctr (hb) _) (x_pre B [0, 2] rfl (by decide) x_ro0) 0 rfl k_Ge (gg_V wd_281 wd_283 wd_8 wd_35 wd_284) ⟨rfl, p_Ge_countOn⟩ rfl rfl ⟨Nat.le_of_ble_eq_true rfl, Nat.le_of_ble_eq_true rfl⟩ rfl hl.1 rfl (Nat.le_of_ble_eq_true rfl) d_Ge_reseed_48 ⟨Nat.le_of_ble_eq_true rfl, Nat.le_of_ble_eq_true rfl⟩) [0, 2] [1, 3, 4, 5, 6, 7, 8] [7, 0, 8, 1, 2, 3, 4, 5, 6] rfl rfl (by decide) (by decide) (by decide) (fun _ => rfl) (fun u48 H locs hw48 B => ?_)
  have B : xB G A s _ _ ([(h0, .inr (3, [.ref kq, .ref cq, .ref pq, .int (nI rs), .int ck, .int lt, .ref dq, .ref e0, .ref rq, .ref tq])), (kq, x_N G 16 (h_tw (va_cpy key rr 0 0 16) end_)), (cq, x_N G 16 (g_ct ctr)), (dq, .inr (1, [.ref d1, .ref d2, .ref d3])), (d1, x_I G 8 u29.1), (d2, x_I G 64 u29.2), (d3, x_N G 32 (h_dg (va_cpy key rr 0 0 16) end_)), (rq, x_N G 1040 (va_cpy key rr 0 0 16)), (tq, x_N G 32 (h_tw (va_cpy key rr 0 0 16) end_))]) := B
  exact hret u29 _ _ _ _ B trivial d_Ge_reseed_51
set_option maxHeartbeats 4000000 in
set_option maxRecDepth 100000 in
theorem q_Ge_reseedWith (G : xG) (l : Launch) (h0 kq cq pq dq e0 rq tq rs : Nat) (ck lt : Int32) (d1 d2 d3 : Nat) (Hf w0 : Nat → Int32) (go : Nat → Nat) (bq bn fr cnt : Nat) (key ctr rr tt f : Nat → Nat) (he : fr + cnt ≤ bn) (he2 : cnt ≤ 1024) (hbn : bn < 100000) (hk : g_bt 16 key) (hf : ∀ j, j < cnt → f (fr + j) < 256) (hb : g_bt 16 ctr) : xMv G l y_Ge_reseedWith c_Ge_reseedWith 4 ({ frames := 5, cells := 0, slots := 0, locals := 129 }) [.ref h0, .ref bq, .int (nI fr), .int (nI cnt)] [(bq, bn, nA f)] [(h0, .inr (3, [.ref kq, .ref cq, .ref pq, .int (nI rs), .int ck, .int lt, .ref dq, .ref e0, .ref rq, .ref tq])), (kq, x_N G 16 key), (cq, x_N G 16 ctr), (dq, .inr (1, [.ref d1, .ref d2, .ref d3])), (d1, x_I G 8 Hf), (d2, x_I G 64 w0), (d3, x_N G 32 go), (rq, x_N G 1040 rr), (tq, x_N G 32 tt)] ((Nat → Int32) × (Nat → Int32)) (fun _ => True) (fun u => [(h0, .inr (3, [.ref kq, .ref cq, .ref pq, .int (nI rs), .int ck, .int lt, .ref dq, .ref e0, .ref rq, .ref tq])), (kq, x_N G 16 (h_tw (va_cpy key (va_cpy f rr fr 16 cnt) 0 0 16) (16 + cnt))), (cq, x_N G 16 (g_ct ctr)), (dq, .inr (1, [.ref d1, .ref d2, .ref d3])), (d1, x_I G 8 u.1), (d2, x_I G 64 u.2), (d3, x_N G 32 (h_dg (va_cpy key (va_cpy f rr fr 16 cnt) 0 0 16) (16 + cnt))), (rq, x_N G 1040 (va_cpy key (va_cpy f rr fr 16 cnt) 0 0 16)), (tq, x_N G 32 (h_tw (va_cpy key (va_cpy f rr fr 16 cnt) 0 0 16) (16 + cnt)))]) 0 0 := by
  refine xMv.by r_Ge (by decide +kernel) (Nat.le_of_ble_eq_true rfl) rfl ?_
  intro p e s m args below meth c A ls Q E hin B hro hl hret
  have hl : lv_has ls 4 [(0, .ref h0), (1, .ref bq), (2, .int (nI fr)), (3, .int (nI cnt))] := hl
  have hR0 : x_R A s s.heap bq bn (nA f) := hro _ (List.mem_of_getElem? (i := 0) rfl)
  refine lv_aload_n E.1 E.2.1 d_Ge_reseedWith_0 rfl (lv_at hl 1 rfl) ?_
  refine lv_iload_n E.1 E.2.1 d_Ge_reseedWith_1 rfl (lv_at hl 2 rfl) ?_
  refine lv_aload_n E.1 E.2.1 d_Ge_reseedWith_2 rfl (lv_at hl 0 rfl) ?_
  refine x_get E B 0 rfl k_Ge 8 (by decide) wd_123 rfl d_Ge_reseedWith_3 ?_
  refine lv_bipush (v := nI 16) E.1 E.2.1 d_Ge_reseedWith_6 (by decide) ?_
  refine lv_iload_n E.1 E.2.1 d_Ge_reseedWith_8 rfl (lv_at hl 3 rfl) ?_
  refine x_cpt E B wd_280 wd_217 wd_216 wd_41 hR0 7 (sp := fr) (dp := 16) (n := cnt) rfl (by omega) (by omega) (by omega) (by decide) hl.1 (Nat.le_of_ble_eq_true rfl) (Nat.le_of_ble_eq_true rfl) d_Ge_reseedWith_9 (fun H locs B => ?_)
  rw [x_cpN] at B
  have B : xB G A s _ _ ([(h0, .inr (3, [.ref kq, .ref cq, .ref pq, .int (nI rs), .int ck, .int lt, .ref dq, .ref e0, .ref rq, .ref tq])), (kq, x_N G 16 key), (cq, x_N G 16 ctr), (dq, .inr (1, [.ref d1, .ref d2, .ref d3])), (d1, x_I G 8 Hf), (d2, x_I G 64 w0), (d3, x_N G 32 go), (rq, x_N G 1040 (va_cpy f rr fr 16 cnt)), (tq, x_N G 32 tt)]) := B
  refine lv_aload_n E.1 E.2.1 d_Ge_reseedWith_12 rfl (lv_at hl 0 rfl) ?_
  refine lv_bipush (v := nI 16) E.1 E.2.1 d_Ge_reseedWith_13 (by decide) ?_
  refine lv_iload_n E.1 E.2.1 d_Ge_reseedWith_15 rfl (lv_at hl 3 rfl) ?_
  refine x_iadd E d_Ge_reseedWith_16 ?_
  refine x_cv (ws' := (fun u => [(h0, .inr (3, [.ref kq, .ref cq, .ref pq, .int (nI rs), .int ck, .int lt, .ref dq, .ref e0, .ref rq, .ref tq])), (kq, x_N G 16 (h_tw (va_cpy key (va_cpy f rr fr 16 cnt) 0 0 16) (16 + cnt))), (cq, x_N G 16 (g_ct ctr)), (dq, .inr (1, [.ref d1, .ref d2, .ref d3])), (d1, x_I G 8 u.1), (d2, x_I G 64 u.2), (d3, x_N G 32 (h_dg (va_cpy key (va_cpy f rr fr 16 cnt) 0 0 16) (16 + cnt))), (rq, x_N G 1040 (va_cpy key (va_cpy f rr fr 16 cnt) 0 0 16)), (tq, x_N G 32 (h_tw (va_cpy key (va_cpy f rr fr 16 cnt) 0 0 16) (16 + cnt)))])) (wr := []) B (x_rV (rest := []) E B (q_Ge_reseed G l h0 kq cq pq dq e0 rq tq rs ck lt d1 d2 d3 Hf w0 go (16 + cnt) key ctr (va_cpy f rr fr 16 cnt) tt (by omega) (r_wb hk hf) (hb) _) (x_pre B [0, 1, 2, 3, 4, 5, 6, 7, 8] rfl (by decide) x_ro0) 0 rfl k_Ge (gg_V wd_276 wd_278 wd_7 wd_35 wd_279) ⟨rfl, p_Ge_reseed⟩ rfl rfl ⟨Nat.le_of_ble_eq_true rfl, Nat.le_of_ble_eq_true rfl⟩ rfl hl.1 rfl (Nat.le_of_ble_eq_true rfl) d_Ge_reseedWith_17 ⟨Nat.le_of_ble_eq_true rfl, Nat.le_of_ble_eq_true rfl⟩) [0, 1, 2, 3, 4, 5, 6, 7, 8] [] [0, 1, 2, 3, 4, 5, 6, 7, 8] rfl rfl (by decide) (by decide) (by decide) (fun _ => rfl) (fun u17 H locs hw17 B => ?_)
  have B : xB G A s _ _ ([(h0, .inr (3, [.ref kq, .ref cq, .ref pq, .int (nI rs), .int ck, .int lt, .ref dq, .ref e0, .ref rq, .ref tq])), (kq, x_N G 16 (h_tw (va_cpy key (va_cpy f rr fr 16 cnt) 0 0 16) (16 + cnt))), (cq, x_N G 16 (g_ct ctr)), (dq, .inr (1, [.ref d1, .ref d2, .ref d3])), (d1, x_I G 8 u17.1), (d2, x_I G 64 u17.2), (d3, x_N G 32 (h_dg (va_cpy key (va_cpy f rr fr 16 cnt) 0 0 16) (16 + cnt))), (rq, x_N G 1040 (va_cpy key (va_cpy f rr fr 16 cnt) 0 0 16)), (tq, x_N G 32 (h_tw (va_cpy key (va_cpy f rr fr 16 cnt) 0 0 16) (16 + cnt)))]) := B
  exact hret u17 _ _ _ _ B trivial d_Ge_reseedWith_20
end
section
set_option maxHeartbeats 4000000 in
set_option maxRecDepth 100000 in
theorem q_Ge_generate (G : xG) (l : Launch) (h0 kq cq pq dq e0 rq tq rs : Nat) (ck lt : Int32) (e1 e2 e3 : Nat) (k0 s0 v0 : Nat → Nat) (n_ iq ni nb : Nat) (key ctr gi : Nat → Nat) (hk : g_bt 16 key) (hb : g_bt 16 ctr) (hni : ni < 100000) (hn : 16 * nb ≤ ni) (hnb : nb = (n_ + 15) / 16) : xMv G l y_Ge_generate c_Ge_generate 4 ({ frames := 3, cells := 0, slots := 0, locals := 105 }) [.ref h0, .int (nI n_), .ref iq] [] [(h0, .inr (3, [.ref kq, .ref cq, .ref pq, .int (nI rs), .int ck, .int lt, .ref dq, .ref e0, .ref rq, .ref tq])), (kq, x_N G 16 key), (cq, x_N G 16 ctr), (e0, .inr (0, [.ref e1, .ref e2, .ref e3])), (e1, x_N G 176 k0), (e2, x_N G 16 s0), (e3, x_N G 16 v0), (iq, x_N G ni gi)] ((Nat → Nat) × (Nat → Nat)) (fun _ => True) (fun u => [(h0, .inr (3, [.ref kq, .ref cq, .ref pq, .int (nI rs), .int ck, .int lt, .ref dq, .ref e0, .ref rq, .ref tq])), (kq, x_N G 16 (g_key key ctr nb)), (cq, x_N G 16 (g_cts ctr (nb + 1))), (e0, .inr (0, [.ref e1, .ref e2, .ref e3])), (e1, x_N G 176 (g_sch key)), (e2, x_N G 16 u.1), (e3, x_N G 16 u.2), (iq, x_N G ni (g_gen (g_sch key) ctr gi nb))]) 0 0 := by
  refine xMv.by r_Ge (by decide +kernel) (Nat.le_of_ble_eq_true rfl) rfl ?_
  intro p e s m args below meth c A ls Q E hin B hro hl hret
  have hl : lv_has ls 4 [(0, .ref h0), (1, .int (nI n_)), (2, .ref iq)] := hl
  have hK := g_sch_bt hk
  refine lv_aload_n E.1 E.2.1 d_Ge_generate_0 rfl (lv_at hl 0 rfl) ?_
  refine x_get E B 0 rfl k_Ge 7 (by decide) wd_122 rfl d_Ge_generate_1 ?_
  refine lv_aload_n E.1 E.2.1 d_Ge_generate_4 rfl (lv_at hl 0 rfl) ?_
  refine x_get E B 0 rfl k_Ge 0 (by decide) wd_109 rfl d_Ge_generate_5 ?_
  refine x_cv (ws' := (fun u => [(h0, .inr (3, [.ref kq, .ref cq, .ref pq, .int (nI rs), .int ck, .int lt, .ref dq, .ref e0, .ref rq, .ref tq])), (kq, x_N G 16 key), (cq, x_N G 16 ctr), (e0, .inr (0, [.ref e1, .ref e2, .ref e3])), (e1, x_N G 176 (g_sch key)), (e2, x_N G 16 s0), (e3, x_N G 16 v0), (iq, x_N G ni gi)])) (wr := [(h0, .inr (3, [.ref kq, .ref cq, .ref pq, .int (nI rs), .int ck, .int lt, .ref dq, .ref e0, .ref rq, .ref tq])), (kq, x_N G 16 key), (cq, x_N G 16 ctr), (e2, x_N G 16 s0), (e3, x_N G 16 v0), (iq, x_N G ni gi)]) B (x_rV (rest := []) E B (q_Ci_takeKey G l e0 e1 e2 e3 kq key k0 (hk) _) (x_pre B [3, 4] rfl (by decide) (x_ro1 (x_ro_w B 1 rfl [3, 4] rfl (by decide)))) 3 rfl k_Ci (gg_V wd_293 wd_294 wd_295 wd_38 wd_296) ⟨rfl, p_Ci_takeKey⟩ rfl rfl ⟨Nat.le_of_ble_eq_true rfl, Nat.le_of_ble_eq_true rfl⟩ rfl hl.1 rfl (Nat.le_of_ble_eq_true rfl) d_Ge_generate_8 ⟨Nat.le_of_ble_eq_true rfl, Nat.le_of_ble_eq_true rfl⟩) [3, 4] [0, 1, 2, 5, 6, 7] [0, 1, 2, 6, 7, 3, 4, 5] rfl rfl (by decide) (by decide) (by decide) (fun _ => rfl) (fun u8 H locs hw8 B => ?_)
  have B : xB G A s _ _ ([(h0, .inr (3, [.ref kq, .ref cq, .ref pq, .int (nI rs), .int ck, .int lt, .ref dq, .ref e0, .ref rq, .ref tq])), (kq, x_N G 16 key), (cq, x_N G 16 ctr), (e0, .inr (0, [.ref e1, .ref e2, .ref e3])), (e1, x_N G 176 (g_sch key)), (e2, x_N G 16 s0), (e3, x_N G 16 v0), (iq, x_N G ni gi)]) := B
  refine lv_iconst (v := nI 0) E.1 E.2.1 d_Ge_generate_11 (by decide) ?_
  refine lv_istore_n (lv' := [(3, .int (nI 0)), (0, .ref h0), (1, .int (nI n_)), (2, .ref iq)]) E.1 E.2.1 d_Ge_generate_12 rfl hl (by decide) rfl (fun ls hl => ?_)
  have hL13 : ∀ (kf : Nat) (b : Nat) (s1 v1 : Nat → Nat), nb - b < kf → (b ≤ nb) → ∀ (H : Heap) (locs : List Loc) (ls : Array Slot), xB G A s H locs ([(h0, .inr (3, [.ref kq, .ref cq, .ref pq, .int (nI rs), .int ck, .int lt, .ref dq, .ref e0, .ref rq, .ref tq])), (kq, x_N G 16 key), (cq, x_N G 16 (g_cts ctr b)), (e0, .inr (0, [.ref e1, .ref e2, .ref e3])), (e1, x_N G 176 (g_sch key)), (e2, x_N G 16 s1), (e3, x_N G 16 v1), (iq, x_N G ni (g_gen (g_sch key) ctr gi b))]) → lv_has ls 4 [(3, .int (nI (16 * b))), (0, .ref h0), (1, .int (nI n_)), (2, .ref iq)] → W p l e ({ frames := 3, cells := 0, slots := 0, locals := 105 }) s m args below meth c H locs 0 0 Q (F0 m 13 ls []) := by
    intro k13
    induction k13 with
    | zero =>
      intro b s1 v1 hk
      exact absurd hk (Nat.not_lt_zero _)
    | succ k13 ih13 =>
      intro b s1 v1 hk13 hi H locs ls B hl
      refine lv_iload_n E.1 E.2.1 d_Ge_generate_13 rfl (lv_at hl 0 rfl) ?_
      refine lv_iload_n E.1 E.2.1 d_Ge_generate_14 rfl (lv_at hl 2 rfl) ?_
      refine x_ge (tgt := 41) E d_Ge_generate_15 (by decide) (by omega) (by omega) (fun c1 => ?_) (fun c1 => ?_)
      · obtain rfl : nb = b := by omega
        refine lv_aload_n E.1 E.2.1 d_Ge_generate_41 rfl (lv_at hl 1 rfl) ?_
        refine x_get E B 0 rfl k_Ge 7 (by decide) wd_122 rfl d_Ge_generate_42 ?_
        refine lv_aload_n E.1 E.2.1 d_Ge_generate_45 rfl (lv_at hl 1 rfl) ?_
        refine x_get E B 0 rfl k_Ge 1 (by decide) wd_111 rfl d_Ge_generate_46 ?_
        refine lv_aload_n E.1 E.2.1 d_Ge_generate_49 rfl (lv_at hl 1 rfl) ?_
        refine x_get E B 0 rfl k_Ge 0 (by decide) wd_109 rfl d_Ge_generate_50 ?_
        refine lv_iconst (v := nI 0) E.1 E.2.1 d_Ge_generate_53 (by decide) ?_
        refine x_cv (ws' := (fun u => [(h0, .inr (3, [.ref kq, .ref cq, .ref pq, .int (nI rs), .int ck, .int lt, .ref dq, .ref e0, .ref rq, .ref tq])), (kq, x_N G 16 (va_cpy (g_blk (g_sch key) (g_cts ctr nb) 10) key 0 0 16)), (cq, x_N G 16 (g_cts ctr nb)), (e0, .inr (0, [.ref e1, .ref e2, .ref e3])), (e1, x_N G 176 (g_sch key)), (e2, x_N G 16 (g_blk (g_sch key) (g_cts ctr nb) 10)), (e3, x_N G 16 (g_sm (g_blk (g_sch key) (g_cts ctr nb) 9))), (iq, x_N G ni (g_gen (g_sch key) ctr gi nb))])) (wr := [(h0, .inr (3, [.ref kq, .ref cq, .ref pq, .int (nI rs), .int ck, .int lt, .ref dq, .ref e0, .ref rq, .ref tq])), (cq, x_N G 16 (g_cts ctr nb)), (iq, x_N G ni (g_gen (g_sch key) ctr gi nb))]) B (x_rV (rest := []) E B (q_Ci_encrypt G l e0 e1 e2 e3 cq kq 16 0 (g_sch key) s1 v1 key (g_cts ctr nb) (hK) (g_cts_bt hb _) (by omega) (by omega) _) (x_pre B [3, 4, 5, 6, 1] rfl (by decide) (x_ro1 (x_ro_w B 2 rfl [3, 4, 5, 6, 1] rfl (by decide)))) 3 rfl k_Ci (gg_V wd_307 wd_308 wd_309 wd_38 wd_310) ⟨rfl, p_Ci_encrypt⟩ rfl rfl ⟨Nat.le_of_ble_eq_true rfl, Nat.le_of_ble_eq_true rfl⟩ rfl hl.1 rfl (Nat.le_of_ble_eq_true rfl) d_Ge_generate_54 ⟨Nat.le_of_ble_eq_true rfl, Nat.le_of_ble_eq_true rfl⟩) [3, 4, 5, 6, 1] [0, 2, 7] [0, 7, 1, 3, 4, 5, 6, 2] rfl rfl (by decide) (by decide) (by decide) (fun _ => rfl) (fun u54 H locs hw54 B => ?_)
        have B : xB G A s _ _ ([(h0, .inr (3, [.ref kq, .ref cq, .ref pq, .int (nI rs), .int ck, .int lt, .ref dq, .ref e0, .ref rq, .ref tq])), (kq, x_N G 16 (va_cpy (g_blk (g_sch key) (g_cts ctr nb) 10) key 0 0 16)), (cq, x_N G 16 (g_cts ctr nb)), (e0, .inr (0, [.ref e1, .ref e2, .ref e3])), (e1, x_N G 176 (g_sch key)), (e2, x_N G 16 (g_blk (g_sch key) (g_cts ctr nb) 10)), (e3, x_N G 16 (g_sm (g_blk (g_sch key) (g_cts ctr nb) 9))), (iq, x_N G ni (g_gen (g_sch key) ctr gi nb))]) := B
        have B := B.fn 1 rfl (nA (g_key key ctr nb)) (cp_0)
        have B : xB G A s _ _ ([(h0, .inr (3, [.ref kq, .ref cq, .ref pq, .int (nI rs), .int ck, .int lt, .ref dq, .ref e0, .ref rq, .ref tq])), (kq, x_N G 16 (g_key key ctr nb)), (cq, x_N G 16 (g_cts ctr nb)), (e0, .inr (0, [.ref e1, .ref e2, .ref e3])), (e1, x_N G 176 (g_sch key)), (e2, x_N G 16 (g_blk (g_sch key) (g_cts ctr nb) 10)), (e3, x_N G 16 (g_sm (g_blk (g_sch key) (g_cts ctr nb) 9))), (iq, x_N G ni (g_gen (g_sch key) ctr gi nb))]) := B
        refine lv_aload_n E.1 E.2.1 d_Ge_generate_57 rfl (lv_at hl 1 rfl) ?_
        refine x_cv (ws' := (fun u => [(h0, .inr (3, [.ref kq, .ref cq, .ref pq, .int (nI rs), .int ck, .int lt, .ref dq, .ref e0, .ref rq, .ref tq])), (kq, x_N G 16 (g_key key ctr nb)), (cq, x_N G 16 (g_ct (g_cts ctr nb))), (e0, .inr (0, [.ref e1, .ref e2, .ref e3])), (e1, x_N G 176 (g_sch key)), (e2, x_N G 16 (g_blk (g_sch key) (g_cts ctr nb) 10)), (e3, x_N G 16 (g_sm (g_blk (g_sch key) (g_cts ctr nb) 9))), (iq, x_N G ni (g_gen (g_sch key) ctr gi nb))])) (wr := [(kq, x_N G 16 (g_key key ctr nb)), (e0, .inr (0, [.ref e1, .ref e2, .ref e3])), (e1, x_N G 176 (g_sch key)), (e2, x_N G 16 (g_blk (g_sch key) (g_cts ctr nb) 10)), (e3, x_N G 16 (g_sm (g_blk (g_sch key) (g_cts ctr nb) 9))), (iq, x_N G ni (g_gen (g_sch key) ctr gi nb))]) B (x_rV (rest := []) E B (q_Ge_countOn G l h0 kq cq pq dq e0 rq tq rs ck lt (g_cts ctr nb) (g_cts_bt hb _) _) (x_pre B [0, 2] rfl (by decide) x_ro0) 0 rfl k_Ge (gg_V wd_281 wd_283 wd_8 wd_35 wd_284) ⟨rfl, p_Ge_countOn⟩ rfl rfl ⟨Nat.le_of_ble_eq_true rfl, Nat.le_of_ble_eq_true rfl⟩ rfl hl.1 rfl (Nat.le_of_ble_eq_true rfl) d_Ge_generate_58 ⟨Nat.le_of_ble_eq_true rfl, Nat.le_of_ble_eq_true rfl⟩) [0, 2] [1, 3, 4, 5, 6, 7] [6, 0, 7, 1, 2, 3, 4, 5] rfl rfl (by decide) (by decide) (by decide) (fun _ => rfl) (fun u58 H locs hw58 B => ?_)
        have B : xB G A s _ _ ([(h0, .inr (3, [.ref kq, .ref cq, .ref pq, .int (nI rs), .int ck, .int lt, .ref dq, .ref e0, .ref rq, .ref tq])), (kq, x_N G 16 (g_key key ctr nb)), (cq, x_N G 16 (g_ct (g_cts ctr nb))), (e0, .inr (0, [.ref e1, .ref e2, .ref e3])), (e1, x_N G 176 (g_sch key)), (e2, x_N G 16 (g_blk (g_sch key) (g_cts ctr nb) 10)), (e3, x_N G 16 (g_sm (g_blk (g_sch key) (g_cts ctr nb) 9))), (iq, x_N G ni (g_gen (g_sch key) ctr gi nb))]) := B
        exact hret (_, _) _ _ _ _ B trivial d_Ge_generate_61
      · refine lv_aload_n E.1 E.2.1 d_Ge_generate_18 rfl (lv_at hl 1 rfl) ?_
        refine x_get E B 0 rfl k_Ge 7 (by decide) wd_122 rfl d_Ge_generate_19 ?_
        refine lv_aload_n E.1 E.2.1 d_Ge_generate_22 rfl (lv_at hl 1 rfl) ?_
        refine x_get E B 0 rfl k_Ge 1 (by decide) wd_111 rfl d_Ge_generate_23 ?_
        refine lv_aload_n E.1 E.2.1 d_Ge_generate_26 rfl (lv_at hl 3 rfl) ?_
        refine lv_iload_n E.1 E.2.1 d_Ge_generate_27 rfl (lv_at hl 0 rfl) ?_
        refine x_cv (ws' := (fun u => [(h0, .inr (3, [.ref kq, .ref cq, .ref pq, .int (nI rs), .int ck, .int lt, .ref dq, .ref e0, .ref rq, .ref tq])), (kq, x_N G 16 key), (cq, x_N G 16 (g_cts ctr b)), (e0, .inr (0, [.ref e1, .ref e2, .ref e3])), (e1, x_N G 176 (g_sch key)), (e2, x_N G 16 (g_blk (g_sch key) (g_cts ctr b) 10)), (e3, x_N G 16 (g_sm (g_blk (g_sch key) (g_cts ctr b) 9))), (iq, x_N G ni (va_cpy (g_blk (g_sch key) (g_cts ctr b) 10) (g_gen (g_sch key) ctr gi b) 0 (16 * b) 16))])) (wr := [(h0, .inr (3, [.ref kq, .ref cq, .ref pq, .int (nI rs), .int ck, .int lt, .ref dq, .ref e0, .ref rq, .ref tq])), (kq, x_N G 16 key), (cq, x_N G 16 (g_cts ctr b))]) B (x_rV (rest := []) E B (q_Ci_encrypt G l e0 e1 e2 e3 cq iq ni (16 * b) (g_sch key) s1 v1 (g_gen (g_sch key) ctr gi b) (g_cts ctr b) (hK) (g_cts_bt hb b) (by omega) (by omega) _) (x_pre B [3, 4, 5, 6, 7] rfl (by decide) (x_ro1 (x_ro_w B 2 rfl [3, 4, 5, 6, 7] rfl (by decide)))) 3 rfl k_Ci (gg_V wd_307 wd_308 wd_309 wd_38 wd_310) ⟨rfl, p_Ci_encrypt⟩ rfl rfl ⟨Nat.le_of_ble_eq_true rfl, Nat.le_of_ble_eq_true rfl⟩ rfl hl.1 rfl (Nat.le_of_ble_eq_true rfl) d_Ge_generate_28 ⟨Nat.le_of_ble_eq_true rfl, Nat.le_of_ble_eq_true rfl⟩) [3, 4, 5, 6, 7] [0, 1, 2] [0, 1, 2, 3, 4, 5, 6, 7] rfl rfl (by decide) (by decide) (by decide) (fun _ => rfl) (fun u28 H locs hw28 B => ?_)
        have B : xB G A s _ _ ([(h0, .inr (3, [.ref kq, .ref cq, .ref pq, .int (nI rs), .int ck, .int lt, .ref dq, .ref e0, .ref rq, .ref tq])), (kq, x_N G 16 key), (cq, x_N G 16 (g_cts ctr b)), (e0, .inr (0, [.ref e1, .ref e2, .ref e3])), (e1, x_N G 176 (g_sch key)), (e2, x_N G 16 (g_blk (g_sch key) (g_cts ctr b) 10)), (e3, x_N G 16 (g_sm (g_blk (g_sch key) (g_cts ctr b) 9))), (iq, x_N G ni (va_cpy (g_blk (g_sch key) (g_cts ctr b) 10) (g_gen (g_sch key) ctr gi b) 0 (16 * b) 16))]) := B
        refine lv_aload_n E.1 E.2.1 d_Ge_generate_31 rfl (lv_at hl 1 rfl) ?_
        refine x_cv (ws' := (fun u => [(h0, .inr (3, [.ref kq, .ref cq, .ref pq, .int (nI rs), .int ck, .int lt, .ref dq, .ref e0, .ref rq, .ref tq])), (kq, x_N G 16 key), (cq, x_N G 16 (g_ct (g_cts ctr b))), (e0, .inr (0, [.ref e1, .ref e2, .ref e3])), (e1, x_N G 176 (g_sch key)), (e2, x_N G 16 (g_blk (g_sch key) (g_cts ctr b) 10)), (e3, x_N G 16 (g_sm (g_blk (g_sch key) (g_cts ctr b) 9))), (iq, x_N G ni (va_cpy (g_blk (g_sch key) (g_cts ctr b) 10) (g_gen (g_sch key) ctr gi b) 0 (16 * b) 16))])) (wr := [(kq, x_N G 16 key), (e0, .inr (0, [.ref e1, .ref e2, .ref e3])), (e1, x_N G 176 (g_sch key)), (e2, x_N G 16 (g_blk (g_sch key) (g_cts ctr b) 10)), (e3, x_N G 16 (g_sm (g_blk (g_sch key) (g_cts ctr b) 9))), (iq, x_N G ni (va_cpy (g_blk (g_sch key) (g_cts ctr b) 10) (g_gen (g_sch key) ctr gi b) 0 (16 * b) 16))]) B (x_rV (rest := []) E B (q_Ge_countOn G l h0 kq cq pq dq e0 rq tq rs ck lt (g_cts ctr b) (g_cts_bt hb b) _) (x_pre B [0, 2] rfl (by decide) x_ro0) 0 rfl k_Ge (gg_V wd_281 wd_283 wd_8 wd_35 wd_284) ⟨rfl, p_Ge_countOn⟩ rfl rfl ⟨Nat.le_of_ble_eq_true rfl, Nat.le_of_ble_eq_true rfl⟩ rfl hl.1 rfl (Nat.le_of_ble_eq_true rfl) d_Ge_generate_32 ⟨Nat.le_of_ble_eq_true rfl, Nat.le_of_ble_eq_true rfl⟩) [0, 2] [1, 3, 4, 5, 6, 7] [6, 0, 7, 1, 2, 3, 4, 5] rfl rfl (by decide) (by decide) (by decide) (fun _ => rfl) (fun u32 H locs hw32 B => ?_)
        have B : xB G A s _ _ ([(h0, .inr (3, [.ref kq, .ref cq, .ref pq, .int (nI rs), .int ck, .int lt, .ref dq, .ref e0, .ref rq, .ref tq])), (kq, x_N G 16 key), (cq, x_N G 16 (g_ct (g_cts ctr b))), (e0, .inr (0, [.ref e1, .ref e2, .ref e3])), (e1, x_N G 176 (g_sch key)), (e2, x_N G 16 (g_blk (g_sch key) (g_cts ctr b) 10)), (e3, x_N G 16 (g_sm (g_blk (g_sch key) (g_cts ctr b) 9))), (iq, x_N G ni (va_cpy (g_blk (g_sch key) (g_cts ctr b) 10) (g_gen (g_sch key) ctr gi b) 0 (16 * b) 16))]) := B
        refine x_inc E 16 (lv' := [(3, .int (nI ((16 * b) + 16))), (0, .ref h0), (1, .int (nI n_)), (2, .ref iq)]) d_Ge_generate_35 hl (k := 0) rfl rfl (by decide) rfl (fun ls hl => ?_)
        refine lv_goto (tgt := 13) E.1 E.2.1 d_Ge_generate_38 (by decide) ?_
        exact ih13  (b + 1) _ _ (by omega) (by omega) _ _ _ B (lv_sub hl [0, 1, 2, 3] rfl)
  exact hL13 (nb + 1) 0 s0 v0 (by omega) (by omega) _ _ _ B (lv_sub hl [0, 1, 2, 3] rfl)
set_option maxHeartbeats 4000000 in
set_option maxRecDepth 100000 in
theorem q_Ge_isMultiple (l : Launch) (r i : Nat) (hr : r < 2 ^ 31) (hi : i < 32) : xMf l y_Ge_isMultiple c_Ge_isMultiple 2 .boolean ({ frames := 0, cells := 0, slots := 0, locals := 0 }) [.int (nI r), .int (nI i)] (nI (r_m r i)) := by
  refine xMfz.by r_Ge (by decide +kernel) (Nat.le_of_ble_eq_true rfl) rfl ?_
  intro p e s m args below meth c ls Q E hl hret
  have hl : lv_has ls 2 [(0, .int (nI r)), (1, .int (nI i))] := hl
  refine lv_iload_n E.1 E.2.1 d_Ge_isMultiple_0 rfl (lv_at hl 0 rfl) ?_
  refine lv_iconst (v := nI 1) E.1 E.2.1 d_Ge_isMultiple_1 (by decide) ?_
  refine lv_iload_n E.1 E.2.1 d_Ge_isMultiple_2 rfl (lv_at hl 1 rfl) ?_
  refine lv_ishl E.1 E.2.1 d_Ge_isMultiple_3 ?_
  refine lv_iconst (v := nI 1) E.1 E.2.1 d_Ge_isMultiple_4 (by decide) ?_
  refine lv_isub E.1 E.2.1 d_Ge_isMultiple_5 ?_
  refine lv_iand E.1 E.2.1 d_Ge_isMultiple_6 ?_
  refine x_top (v' := nI (r % 2 ^ i)) (r_and hr hi) ?_
  refine x_ifn (tgt := 14) E d_Ge_isMultiple_7 (by decide) (Nat.lt_of_le_of_lt (Nat.mod_le _ _) hr) (fun hz => ?_) (fun hz => ?_)
  · refine lv_iconst (v := nI 0) E.1 E.2.1 d_Ge_isMultiple_14 (by decide) ?_
    exact hret _ _ _ (by unfold r_m; first | rw [if_pos hz] | rw [if_neg hz]) rfl d_Ge_isMultiple_15
  · refine lv_iconst (v := nI 1) E.1 E.2.1 d_Ge_isMultiple_10 (by decide) ?_
    refine lv_goto (tgt := 15) E.1 E.2.1 d_Ge_isMultiple_11 (by decide) ?_
    exact hret _ _ _ (by unfold r_m; first | rw [if_pos hz] | rw [if_neg hz]) rfl d_Ge_isMultiple_15
set_option maxHeartbeats 4000000 in
set_option maxRecDepth 100000 in
theorem q_Ge_draw (G : xG) (l : Launch) (h0 kq cq pq dq e0 rq tq rs : Nat) (ck lt : Int32) (d1 d2 d3 : Nat) (Hf w0 : Nat → Int32) (go : Nat → Nat) (key ctr rr tt : Nat → Nat) (pa ba cap len : Nat → Nat) (pb : Nat → Nat → Nat) (hrs : rs < 100000) (hk : g_bt 16 key) (hb : g_bt 16 ctr) (hcap : ∀ j, j < 32 → cap j < 100000 ∧ len j ≤ cap j) (hpb : ∀ j, j < 32 → ∀ k, k < len j → pb j k < 256) : xMv G l y_Ge_draw c_Ge_draw 3 ({ frames := 5, cells := 0, slots := 0, locals := 129 }) [.ref h0] [] ([(h0, .inr (3, [.ref kq, .ref cq, .ref pq, .int (nI rs), .int ck, .int lt, .ref dq, .ref e0, .ref rq, .ref tq])), (kq, x_N G 16 key), (cq, x_N G 16 ctr), (pq, x_Q G 32 (fun j => some (pa j))), (dq, .inr (1, [.ref d1, .ref d2, .ref d3])), (d1, x_I G 8 Hf), (d2, x_I G 64 w0), (d3, x_N G 32 go), (rq, x_N G 1040 rr), (tq, x_N G 32 tt)] ++ x_pl G pa ba cap len pb) ((Nat → Int32) × (Nat → Int32)) (fun _ => True) (fun u => [(h0, .inr (3, [.ref kq, .ref cq, .ref pq, .int (nI (rs + 1)), .int ck, .int ck, .ref dq, .ref e0, .ref rq, .ref tq])), (kq, x_N G 16 (h_tw (va_cpy key (r_row pb len rr (r_n (rs + 1))) 0 0 16) (16 + 32 * (r_n (rs + 1))))), (cq, x_N G 16 (g_ct ctr)), (pq, x_Q G 32 (fun j => some (pa j))), (dq, .inr (1, [.ref d1, .ref d2, .ref d3])), (d1, x_I G 8 u.1), (d2, x_I G 64 u.2), (d3, x_N G 32 (h_dg (va_cpy key (r_row pb len rr (r_n (rs + 1))) 0 0 16) (16 + 32 * (r_n (rs + 1))))), (rq, x_N G 1040 (va_cpy key (r_row pb len rr (r_n (rs + 1))) 0 0 16)), (tq, x_N G 32 (h_tw (va_cpy key (r_row pb len rr (r_n (rs + 1))) 0 0 16) (16 + 32 * (r_n (rs + 1)))))] ++ x_pl G pa ba cap (mx (r_n (rs + 1)) (fun _ => 0) len) pb) 0 0 := by
  refine xMv.by r_Ge (by decide +kernel) (Nat.le_of_ble_eq_true rfl) rfl ?_
  intro p e s m args below meth c A ls Q E hin B hro hl hret
  have hl : lv_has ls 3 [(0, .ref h0)] := hl
  refine lv_aload_n E.1 E.2.1 d_Ge_draw_0 rfl (lv_at hl 0 rfl) ?_
  refine lv_dup E.1 E.2.1 d_Ge_draw_1 rfl ?_
  refine x_get E B 0 rfl k_Ge 3 (by decide) wd_115 rfl d_Ge_draw_2 ?_
  refine lv_iconst (v := nI 1) E.1 E.2.1 d_Ge_draw_5 (by decide) ?_
  refine x_iadd E d_Ge_draw_6 ?_
  refine x_put E B 0 rfl k_Ge 3 (by decide) wd_115 rfl rfl rfl (Nat.le_of_ble_eq_true rfl) d_Ge_draw_7 (fun H locs B => ?_)
  have B : xB G A s _ _ ([(h0, .inr (3, [.ref kq, .ref cq, .ref pq, .int (nI (rs + 1)), .int ck, .int lt, .ref dq, .ref e0, .ref rq, .ref tq])), (kq, x_N G 16 key), (cq, x_N G 16 ctr), (pq, x_Q G 32 (fun j => some (pa j))), (dq, .inr (1, [.ref d1, .ref d2, .ref d3])), (d1, x_I G 8 Hf), (d2, x_I G 64 w0), (d3, x_N G 32 go), (rq, x_N G 1040 rr), (tq, x_N G 32 tt)] ++ x_pl G pa ba cap len pb) := B
  refine lv_bipush (v := nI 16) E.1 E.2.1 d_Ge_draw_10 (by decide) ?_
  refine lv_istore_n (lv' := [(1, .int (nI 16)), (0, .ref h0)]) E.1 E.2.1 d_Ge_draw_12 rfl hl (by decide) rfl (fun ls hl => ?_)
  refine lv_iconst (v := nI 0) E.1 E.2.1 d_Ge_draw_13 (by decide) ?_
  refine lv_istore_n (lv' := [(2, .int (nI 0)), (1, .int (nI 16)), (0, .ref h0)]) E.1 E.2.1 d_Ge_draw_14 rfl hl (by decide) rfl (fun ls hl => ?_)
  have hL15 : ∀ (kf : Nat) (i : Nat) (Hf w0 : Nat → Int32) (go : Nat → Nat), 32 - i < kf → (r_nE (rs + 1) i) → ∀ (H : Heap) (locs : List Loc) (ls : Array Slot), xB G A s H locs ([(h0, .inr (3, [.ref kq, .ref cq, .ref pq, .int (nI (rs + 1)), .int ck, .int lt, .ref dq, .ref e0, .ref rq, .ref tq])), (kq, x_N G 16 key), (cq, x_N G 16 ctr), (pq, x_Q G 32 (fun j => some (pa j))), (dq, .inr (1, [.ref d1, .ref d2, .ref d3])), (d1, x_I G 8 Hf), (d2, x_I G 64 w0), (d3, x_N G 32 go), (rq, x_N G 1040 (r_row pb len rr i)), (tq, x_N G 32 tt)] ++ x_pl G pa ba cap (mx i (fun _ => 0) len) pb) → lv_has ls 3 [(2, .int (nI i)), (1, .int (nI (16 + 32 * i))), (0, .ref h0)] → W p l e ({ frames := 5, cells := 0, slots := 0, locals := 129 }) s m args below meth c H locs 0 0 Q (F0 m 15 ls []) := by
    intro k15
    induction k15 with
    | zero =>
      intro i Hf w0 go hk
      exact absurd hk (Nat.not_lt_zero _)
    | succ k15 ih15 =>
      intro i Hf w0 go hk15 hE H locs ls B hl
      have hi := hE.1
      refine lv_iload_n E.1 E.2.1 d_Ge_draw_15 rfl (lv_at hl 0 rfl) ?_
      refine lv_bipush (v := nI 32) E.1 E.2.1 d_Ge_draw_16 (by decide) ?_
      refine x_ge (tgt := 81) E d_Ge_draw_18 (by decide) (by omega) (by omega) (fun c1 => ?_) (fun c1 => ?_)
      · have hN : r_n (rs + 1) = i := by first | exact r_nE_n hE (by omega) (r_m0 hz) | exact r_nE_x hE (by omega)
        subst hN
        refine lv_aload_n E.1 E.2.1 d_Ge_draw_81 rfl (lv_at hl 2 rfl) ?_
        refine lv_iload_n E.1 E.2.1 d_Ge_draw_82 rfl (lv_at hl 1 rfl) ?_
        refine x_cvX (X' := fun u => [(h0, .inr (3, [.ref kq, .ref cq, .ref pq, .int (nI (rs + 1)), .int ck, .int lt, .ref dq, .ref e0, .ref rq, .ref tq])), (kq, x_N G 16 (h_tw (va_cpy key (r_row pb len rr (r_n (rs + 1))) 0 0 16) (16 + 32 * (r_n (rs + 1))))), (cq, x_N G 16 (g_ct ctr)), (pq, x_Q G 32 (fun j => some (pa j))), (dq, .inr (1, [.ref d1, .ref d2, .ref d3])), (d1, x_I G 8 u.1), (d2, x_I G 64 u.2), (d3, x_N G 32 (h_dg (va_cpy key (r_row pb len rr (r_n (rs + 1))) 0 0 16) (16 + 32 * (r_n (rs + 1))))), (rq, x_N G 1040 (va_cpy key (r_row pb len rr (r_n (rs + 1))) 0 0 16)), (tq, x_N G 32 (h_tw (va_cpy key (r_row pb len rr (r_n (rs + 1))) 0 0 16) (16 + 32 * (r_n (rs + 1)))))]) 10 B (x_rV (rest := []) E B (q_Ge_reseed G l h0 kq cq pq dq e0 rq tq (rs + 1) ck lt d1 d2 d3 Hf w0 go (16 + 32 * (r_n (rs + 1))) key ctr (r_row pb len rr (r_n (rs + 1))) tt (by have := r_n_le (rs + 1); omega) (r_drb hk _) (hb) _) (x_pre B [0, 1, 2, 4, 5, 6, 7, 8, 9] rfl (by decide) x_ro0) 0 rfl k_Ge (gg_V wd_276 wd_278 wd_7 wd_35 wd_279) ⟨rfl, p_Ge_reseed⟩ rfl rfl ⟨Nat.le_of_ble_eq_true rfl, Nat.le_of_ble_eq_true rfl⟩ rfl hl.1 rfl (Nat.le_of_ble_eq_true rfl) d_Ge_draw_83 ⟨Nat.le_of_ble_eq_true rfl, Nat.le_of_ble_eq_true rfl⟩) [0, 1, 2, 4, 5, 6, 7, 8, 9] [3] rfl rfl (fun _ => rfl) rfl (by decide) (fun _ => rfl) (fun _ => rfl) (fun _ => rfl) (by decide) (fun u83 H locs hw83 B => ?_)
        have B : xB G A s _ _ ([(h0, .inr (3, [.ref kq, .ref cq, .ref pq, .int (nI (rs + 1)), .int ck, .int lt, .ref dq, .ref e0, .ref rq, .ref tq])), (kq, x_N G 16 (h_tw (va_cpy key (r_row pb len rr (r_n (rs + 1))) 0 0 16) (16 + 32 * (r_n (rs + 1))))), (cq, x_N G 16 (g_ct ctr)), (pq, x_Q G 32 (fun j => some (pa j))), (dq, .inr (1, [.ref d1, .ref d2, .ref d3])), (d1, x_I G 8 u83.1), (d2, x_I G 64 u83.2), (d3, x_N G 32 (h_dg (va_cpy key (r_row pb len rr (r_n (rs + 1))) 0 0 16) (16 + 32 * (r_n (rs + 1))))), (rq, x_N G 1040 (va_cpy key (r_row pb len rr (r_n (rs + 1))) 0 0 16)), (tq, x_N G 32 (h_tw (va_cpy key (r_row pb len rr (r_n (rs + 1))) 0 0 16) (16 + 32 * (r_n (rs + 1)))))] ++ x_pl G pa ba cap (mx (r_n (rs + 1)) (fun _ => 0) len) pb) := B
        refine lv_aload_n E.1 E.2.1 d_Ge_draw_86 rfl (lv_at hl 2 rfl) ?_
        refine lv_aload_n E.1 E.2.1 d_Ge_draw_87 rfl (lv_at hl 2 rfl) ?_
        refine x_get E B 0 rfl k_Ge 4 (by decide) wd_117 rfl d_Ge_draw_88 ?_
        refine x_put E B 0 rfl k_Ge 5 (by decide) wd_119 rfl rfl rfl (Nat.le_of_ble_eq_true rfl) d_Ge_draw_91 (fun H locs B => ?_)
        have B : xB G A s _ _ ([(h0, .inr (3, [.ref kq, .ref cq, .ref pq, .int (nI (rs + 1)), .int ck, .int ck, .ref dq, .ref e0, .ref rq, .ref tq])), (kq, x_N G 16 (h_tw (va_cpy key (r_row pb len rr (r_n (rs + 1))) 0 0 16) (16 + 32 * (r_n (rs + 1))))), (cq, x_N G 16 (g_ct ctr)), (pq, x_Q G 32 (fun j => some (pa j))), (dq, .inr (1, [.ref d1, .ref d2, .ref d3])), (d1, x_I G 8 u83.1), (d2, x_I G 64 u83.2), (d3, x_N G 32 (h_dg (va_cpy key (r_row pb len rr (r_n (rs + 1))) 0 0 16) (16 + 32 * (r_n (rs + 1))))), (rq, x_N G 1040 (va_cpy key (r_row pb len rr (r_n (rs + 1))) 0 0 16)), (tq, x_N G 32 (h_tw (va_cpy key (r_row pb len rr (r_n (rs + 1))) 0 0 16) (16 + 32 * (r_n (rs + 1)))))] ++ x_pl G pa ba cap (mx (r_n (rs + 1)) (fun _ => 0) len) pb) := B
        exact hret u83 _ _ _ _ B trivial d_Ge_draw_94
      · refine lv_aload_n E.1 E.2.1 d_Ge_draw_21 rfl (lv_at hl 2 rfl) ?_
        refine x_get E B 0 rfl k_Ge 3 (by decide) wd_115 rfl d_Ge_draw_22 ?_
        refine lv_iload_n E.1 E.2.1 d_Ge_draw_25 rfl (lv_at hl 0 rfl) ?_
        refine x_cf (x_rS (rest := []) E (q_Ge_isMultiple l (rs + 1) i (by omega) (by omega)) x_pf (gg_S wd_239 wd_240 wd_35 wd_241) p_Ge_isMultiple rfl rfl ⟨Nat.le_of_ble_eq_true rfl, Nat.le_of_ble_eq_true rfl⟩ rfl hl.1 rfl (Nat.le_of_ble_eq_true rfl) d_Ge_draw_26 ⟨Nat.le_of_ble_eq_true rfl, Nat.le_of_ble_eq_true rfl⟩) ?_
        refine x_if0 (tgt := 81) E d_Ge_draw_29 (by decide) (by have := r_m_lt (rs + 1) i; omega) (fun hz => ?_) (fun hz => ?_)
        · have hN : r_n (rs + 1) = i := by first | exact r_nE_n hE (by omega) (r_m0 hz) | exact r_nE_x hE (by omega)
          subst hN
          refine lv_aload_n E.1 E.2.1 d_Ge_draw_81 rfl (lv_at hl 2 rfl) ?_
          refine lv_iload_n E.1 E.2.1 d_Ge_draw_82 rfl (lv_at hl 1 rfl) ?_
          refine x_cvX (X' := fun u => [(h0, .inr (3, [.ref kq, .ref cq, .ref pq, .int (nI (rs + 1)), .int ck, .int lt, .ref dq, .ref e0, .ref rq, .ref tq])), (kq, x_N G 16 (h_tw (va_cpy key (r_row pb len rr (r_n (rs + 1))) 0 0 16) (16 + 32 * (r_n (rs + 1))))), (cq, x_N G 16 (g_ct ctr)), (pq, x_Q G 32 (fun j => some (pa j))), (dq, .inr (1, [.ref d1, .ref d2, .ref d3])), (d1, x_I G 8 u.1), (d2, x_I G 64 u.2), (d3, x_N G 32 (h_dg (va_cpy key (r_row pb len rr (r_n (rs + 1))) 0 0 16) (16 + 32 * (r_n (rs + 1))))), (rq, x_N G 1040 (va_cpy key (r_row pb len rr (r_n (rs + 1))) 0 0 16)), (tq, x_N G 32 (h_tw (va_cpy key (r_row pb len rr (r_n (rs + 1))) 0 0 16) (16 + 32 * (r_n (rs + 1)))))]) 10 B (x_rV (rest := []) E B (q_Ge_reseed G l h0 kq cq pq dq e0 rq tq (rs + 1) ck lt d1 d2 d3 Hf w0 go (16 + 32 * (r_n (rs + 1))) key ctr (r_row pb len rr (r_n (rs + 1))) tt (by have := r_n_le (rs + 1); omega) (r_drb hk _) (hb) _) (x_pre B [0, 1, 2, 4, 5, 6, 7, 8, 9] rfl (by decide) x_ro0) 0 rfl k_Ge (gg_V wd_276 wd_278 wd_7 wd_35 wd_279) ⟨rfl, p_Ge_reseed⟩ rfl rfl ⟨Nat.le_of_ble_eq_true rfl, Nat.le_of_ble_eq_true rfl⟩ rfl hl.1 rfl (Nat.le_of_ble_eq_true rfl) d_Ge_draw_83 ⟨Nat.le_of_ble_eq_true rfl, Nat.le_of_ble_eq_true rfl⟩) [0, 1, 2, 4, 5, 6, 7, 8, 9] [3] rfl rfl (fun _ => rfl) rfl (by decide) (fun _ => rfl) (fun _ => rfl) (fun _ => rfl) (by decide) (fun u83 H locs hw83 B => ?_)
          have B : xB G A s _ _ ([(h0, .inr (3, [.ref kq, .ref cq, .ref pq, .int (nI (rs + 1)), .int ck, .int lt, .ref dq, .ref e0, .ref rq, .ref tq])), (kq, x_N G 16 (h_tw (va_cpy key (r_row pb len rr (r_n (rs + 1))) 0 0 16) (16 + 32 * (r_n (rs + 1))))), (cq, x_N G 16 (g_ct ctr)), (pq, x_Q G 32 (fun j => some (pa j))), (dq, .inr (1, [.ref d1, .ref d2, .ref d3])), (d1, x_I G 8 u83.1), (d2, x_I G 64 u83.2), (d3, x_N G 32 (h_dg (va_cpy key (r_row pb len rr (r_n (rs + 1))) 0 0 16) (16 + 32 * (r_n (rs + 1))))), (rq, x_N G 1040 (va_cpy key (r_row pb len rr (r_n (rs + 1))) 0 0 16)), (tq, x_N G 32 (h_tw (va_cpy key (r_row pb len rr (r_n (rs + 1))) 0 0 16) (16 + 32 * (r_n (rs + 1)))))] ++ x_pl G pa ba cap (mx (r_n (rs + 1)) (fun _ => 0) len) pb) := B
          refine lv_aload_n E.1 E.2.1 d_Ge_draw_86 rfl (lv_at hl 2 rfl) ?_
          refine lv_aload_n E.1 E.2.1 d_Ge_draw_87 rfl (lv_at hl 2 rfl) ?_
          refine x_get E B 0 rfl k_Ge 4 (by decide) wd_117 rfl d_Ge_draw_88 ?_
          refine x_put E B 0 rfl k_Ge 5 (by decide) wd_119 rfl rfl rfl (Nat.le_of_ble_eq_true rfl) d_Ge_draw_91 (fun H locs B => ?_)
          have B : xB G A s _ _ ([(h0, .inr (3, [.ref kq, .ref cq, .ref pq, .int (nI (rs + 1)), .int ck, .int ck, .ref dq, .ref e0, .ref rq, .ref tq])), (kq, x_N G 16 (h_tw (va_cpy key (r_row pb len rr (r_n (rs + 1))) 0 0 16) (16 + 32 * (r_n (rs + 1))))), (cq, x_N G 16 (g_ct ctr)), (pq, x_Q G 32 (fun j => some (pa j))), (dq, .inr (1, [.ref d1, .ref d2, .ref d3])), (d1, x_I G 8 u83.1), (d2, x_I G 64 u83.2), (d3, x_N G 32 (h_dg (va_cpy key (r_row pb len rr (r_n (rs + 1))) 0 0 16) (16 + 32 * (r_n (rs + 1))))), (rq, x_N G 1040 (va_cpy key (r_row pb len rr (r_n (rs + 1))) 0 0 16)), (tq, x_N G 32 (h_tw (va_cpy key (r_row pb len rr (r_n (rs + 1))) 0 0 16) (16 + 32 * (r_n (rs + 1)))))] ++ x_pl G pa ba cap (mx (r_n (rs + 1)) (fun _ => 0) len) pb) := B
          exact hret u83 _ _ _ _ B trivial d_Ge_draw_94
        · refine lv_aload_n E.1 E.2.1 d_Ge_draw_32 rfl (lv_at hl 2 rfl) ?_
          refine x_get E B 0 rfl k_Ge 6 (by decide) wd_121 rfl d_Ge_draw_33 ?_
          refine lv_aload_n E.1 E.2.1 d_Ge_draw_36 rfl (lv_at hl 2 rfl) ?_
          refine x_get E B 0 rfl k_Ge 2 (by decide) wd_113 rfl d_Ge_draw_37 ?_
          refine lv_iload_n E.1 E.2.1 d_Ge_draw_40 rfl (lv_at hl 0 rfl) ?_
          refine x_aldp E B 3 rfl (i := i) (by omega) (by decide) d_Ge_draw_41 ?_
          refine x_getP (N := 10) E rfl B (j := i) (by omega) wd_65 d_Ge_draw_42 ?_
          refine lv_aload_n E.1 E.2.1 d_Ge_draw_45 rfl (lv_at hl 2 rfl) ?_
          refine x_get E B 0 rfl k_Ge 2 (by decide) wd_113 rfl d_Ge_draw_46 ?_
          refine lv_iload_n E.1 E.2.1 d_Ge_draw_49 rfl (lv_at hl 0 rfl) ?_
          refine x_aldp E B 3 rfl (i := i) (by omega) (by decide) d_Ge_draw_50 ?_
          refine x_getL (N := 10) E rfl B (j := i) (by omega) wd_67 d_Ge_draw_51 ?_
          refine x_top (show nI ((mx i (fun _ => 0) len) i) = nI (len i) from congrArg nI (by exact mx_ge (Nat.le_refl i))) ?_
          refine lv_aload_n E.1 E.2.1 d_Ge_draw_54 rfl (lv_at hl 2 rfl) ?_
          refine x_get E B 0 rfl k_Ge 8 (by decide) wd_123 rfl d_Ge_draw_55 ?_
          refine lv_iload_n E.1 E.2.1 d_Ge_draw_58 rfl (lv_at hl 1 rfl) ?_
          refine x_cvX (X' := fun u => [(h0, .inr (3, [.ref kq, .ref cq, .ref pq, .int (nI (rs + 1)), .int ck, .int lt, .ref dq, .ref e0, .ref rq, .ref tq])), (kq, x_N G 16 key), (cq, x_N G 16 ctr), (pq, x_Q G 32 (fun j => some (pa j))), (dq, .inr (1, [.ref d1, .ref d2, .ref d3])), (d1, x_I G 8 u.1), (d2, x_I G 64 u.2), (d3, x_N G 32 (h_dg (pb i) (len i))), (rq, x_N G 1040 (va_cpy (h_tw (pb i) (len i)) (r_row pb len rr i) 0 (16 + 32 * i) 32)), (tq, x_N G 32 tt)]) 10 B (x_rV (rest := []) E B (q_Dg_twice G l dq d1 d2 d3 (ba i) (cap i) (len i) rq 1040 (16 + 32 * i) (pb i) go (r_row pb len rr i) Hf w0 ((hcap i (by omega)).2) ((hcap i (by omega)).1) (hpb i (by omega)) (by omega) (by omega) _) (x_pre B [4, 5, 6, 7, 8] rfl (by decide) (x_ro1 (x_roP (N := 10) rfl B (j := i) (by omega) [4, 5, 6, 7, 8] rfl (by decide)))) 4 rfl k_Dg (gg_V wd_242 wd_243 wd_244 wd_37 wd_245) ⟨rfl, p_Dg_twice⟩ rfl rfl ⟨Nat.le_of_ble_eq_true rfl, Nat.le_of_ble_eq_true rfl⟩ rfl hl.1 rfl (Nat.le_of_ble_eq_true rfl) d_Ge_draw_59 ⟨Nat.le_of_ble_eq_true rfl, Nat.le_of_ble_eq_true rfl⟩) [4, 5, 6, 7, 8] [0, 1, 2, 3, 9] rfl rfl (fun _ => rfl) rfl (by decide) (fun _ => rfl) (fun _ => rfl) (fun _ => rfl) (by decide) (fun u59 H locs hw59 B => ?_)
          have B : xB G A s _ _ ([(h0, .inr (3, [.ref kq, .ref cq, .ref pq, .int (nI (rs + 1)), .int ck, .int lt, .ref dq, .ref e0, .ref rq, .ref tq])), (kq, x_N G 16 key), (cq, x_N G 16 ctr), (pq, x_Q G 32 (fun j => some (pa j))), (dq, .inr (1, [.ref d1, .ref d2, .ref d3])), (d1, x_I G 8 u59.1), (d2, x_I G 64 u59.2), (d3, x_N G 32 (h_dg (pb i) (len i))), (rq, x_N G 1040 (va_cpy (h_tw (pb i) (len i)) (r_row pb len rr i) 0 (16 + 32 * i) 32)), (tq, x_N G 32 tt)] ++ x_pl G pa ba cap (mx i (fun _ => 0) len) pb) := B
          refine lv_aload_n E.1 E.2.1 d_Ge_draw_62 rfl (lv_at hl 2 rfl) ?_
          refine x_get E B 0 rfl k_Ge 2 (by decide) wd_113 rfl d_Ge_draw_63 ?_
          refine lv_iload_n E.1 E.2.1 d_Ge_draw_66 rfl (lv_at hl 0 rfl) ?_
          refine x_aldp E B 3 rfl (i := i) (by omega) (by decide) d_Ge_draw_67 ?_
          refine lv_iconst (v := nI 0) E.1 E.2.1 d_Ge_draw_68 (by decide) ?_
          refine x_putL (N := 10) E rfl B (j := i) (by omega) wd_67 (v := 0) d_Ge_draw_69 (fun H locs B => ?_)
          have B : xB G A s _ _ ([(h0, .inr (3, [.ref kq, .ref cq, .ref pq, .int (nI (rs + 1)), .int ck, .int lt, .ref dq, .ref e0, .ref rq, .ref tq])), (kq, x_N G 16 key), (cq, x_N G 16 ctr), (pq, x_Q G 32 (fun j => some (pa j))), (dq, .inr (1, [.ref d1, .ref d2, .ref d3])), (d1, x_I G 8 u59.1), (d2, x_I G 64 u59.2), (d3, x_N G 32 (h_dg (pb i) (len i))), (rq, x_N G 1040 (va_cpy (h_tw (pb i) (len i)) (r_row pb len rr i) 0 (16 + 32 * i) 32)), (tq, x_N G 32 tt)] ++ x_pl G pa ba cap (va_up (mx i (fun _ => 0) len) i 0) pb) := B
          have B := B.eq ([(h0, .inr (3, [.ref kq, .ref cq, .ref pq, .int (nI (rs + 1)), .int ck, .int lt, .ref dq, .ref e0, .ref rq, .ref tq])), (kq, x_N G 16 key), (cq, x_N G 16 ctr), (pq, x_Q G 32 (fun j => some (pa j))), (dq, .inr (1, [.ref d1, .ref d2, .ref d3])), (d1, x_I G 8 u59.1), (d2, x_I G 64 u59.2), (d3, x_N G 32 (h_dg (pb i) (len i))), (rq, x_N G 1040 (va_cpy (h_tw (pb i) (len i)) (r_row pb len rr i) 0 (16 + 32 * i) 32)), (tq, x_N G 32 tt)] ++ x_pl G pa ba cap (mx (i + 1) (fun _ => 0) len) pb) (by rw [mx_up rfl])
          refine x_inc E 32 (lv' := [(1, .int (nI ((16 + 32 * i) + 32))), (2, .int (nI i)), (0, .ref h0)]) d_Ge_draw_72 hl (k := 1) rfl rfl (by decide) rfl (fun ls hl => ?_)
          refine x_inc E 1 (lv' := [(2, .int (nI (i + 1))), (1, .int (nI ((16 + 32 * i) + 32))), (0, .ref h0)]) d_Ge_draw_75 hl (k := 1) rfl rfl (by decide) rfl (fun ls hl => ?_)
          refine lv_goto (tgt := 15) E.1 E.2.1 d_Ge_draw_78 (by decide) ?_
          exact ih15  (i + 1) _ _ _ (by omega) (r_nE_y hE (by omega) (r_m1 hz)) _ _ _ B (lv_sub hl [0, 1, 2] rfl)
  have B := B.eq ([(h0, .inr (3, [.ref kq, .ref cq, .ref pq, .int (nI (rs + 1)), .int ck, .int lt, .ref dq, .ref e0, .ref rq, .ref tq])), (kq, x_N G 16 key), (cq, x_N G 16 ctr), (pq, x_Q G 32 (fun j => some (pa j))), (dq, .inr (1, [.ref d1, .ref d2, .ref d3])), (d1, x_I G 8 Hf), (d2, x_I G 64 w0), (d3, x_N G 32 go), (rq, x_N G 1040 rr), (tq, x_N G 32 tt)] ++ x_pl G pa ba cap (mx 0 (fun _ => 0) len) pb) (by rw [show mx 0 (fun _ => 0) len = len from funext (mx_0 _ _)])
  exact hL15 (33) 0 Hf w0 go (by omega) (r_nE_0 _) _ _ _ B (lv_sub hl [0, 1, 2] rfl)
set_option maxHeartbeats 4000000 in
set_option maxRecDepth 100000 in
theorem q_Ge_byteOfTwice (G : xG) (l : Launch) (h0 kq cq pq dq e0 rq tq rs : Nat) (ck lt : Int32) (d1 d2 d3 : Nat) (Hf w0 : Nat → Int32) (go : Nat → Nat) (j i : Nat) (tt : Nat → Nat) (pa ba cap len : Nat → Nat) (pb : Nat → Nat → Nat) (hj : j < 32) (hi : i < 32) (hcap : cap j < 100000 ∧ len j ≤ cap j) (hpb : ∀ k, k < len j → pb j k < 256) : xMi G l y_Ge_byteOfTwice c_Ge_byteOfTwice 3 .int ({ frames := 4, cells := 0, slots := 0, locals := 108 }) [.ref h0, .int (nI j), .int (nI i)] [] ([(h0, .inr (3, [.ref kq, .ref cq, .ref pq, .int (nI rs), .int ck, .int lt, .ref dq, .ref e0, .ref rq, .ref tq])), (pq, x_Q G 32 (fun j => some (pa j))), (dq, .inr (1, [.ref d1, .ref d2, .ref d3])), (d1, x_I G 8 Hf), (d2, x_I G 64 w0), (d3, x_N G 32 go), (tq, x_N G 32 tt)] ++ x_pl G pa ba cap len pb) ((Nat → Int32) × (Nat → Int32)) (fun r _ => r = nI (h_tw (pb j) (len j) i)) (fun u => [(h0, .inr (3, [.ref kq, .ref cq, .ref pq, .int (nI rs), .int ck, .int lt, .ref dq, .ref e0, .ref rq, .ref tq])), (pq, x_Q G 32 (fun j => some (pa j))), (dq, .inr (1, [.ref d1, .ref d2, .ref d3])), (d1, x_I G 8 u.1), (d2, x_I G 64 u.2), (d3, x_N G 32 (h_dg (pb j) (len j))), (tq, x_N G 32 (h_tw (pb j) (len j)))] ++ x_pl G pa ba cap len pb) 0 0 := by
  refine xMi.by r_Ge (by decide +kernel) (Nat.le_of_ble_eq_true rfl) rfl ?_
  intro p e s m args below meth c A ls Q E B hro hl hret
  have hl : lv_has ls 3 [(0, .ref h0), (1, .int (nI j)), (2, .int (nI i))] := hl
  refine lv_aload_n E.1 E.2.1 d_Ge_byteOfTwice_0 rfl (lv_at hl 0 rfl) ?_
  refine x_get E B 0 rfl k_Ge 6 (by decide) wd_121 rfl d_Ge_byteOfTwice_1 ?_
  refine lv_aload_n E.1 E.2.1 d_Ge_byteOfTwice_4 rfl (lv_at hl 0 rfl) ?_
  refine x_get E B 0 rfl k_Ge 2 (by decide) wd_113 rfl d_Ge_byteOfTwice_5 ?_
  refine lv_iload_n E.1 E.2.1 d_Ge_byteOfTwice_8 rfl (lv_at hl 1 rfl) ?_
  refine x_aldp E B 1 rfl (i := j) (by omega) (by decide) d_Ge_byteOfTwice_9 ?_
  refine x_getP (N := 7) E rfl B (j := j) (by omega) wd_65 d_Ge_byteOfTwice_10 ?_
  refine lv_aload_n E.1 E.2.1 d_Ge_byteOfTwice_13 rfl (lv_at hl 0 rfl) ?_
  refine x_get E B 0 rfl k_Ge 2 (by decide) wd_113 rfl d_Ge_byteOfTwice_14 ?_
  refine lv_iload_n E.1 E.2.1 d_Ge_byteOfTwice_17 rfl (lv_at hl 1 rfl) ?_
  refine x_aldp E B 1 rfl (i := j) (by omega) (by decide) d_Ge_byteOfTwice_18 ?_
  refine x_getL (N := 7) E rfl B (j := j) (by omega) wd_67 d_Ge_byteOfTwice_19 ?_
  refine lv_aload_n E.1 E.2.1 d_Ge_byteOfTwice_22 rfl (lv_at hl 0 rfl) ?_
  refine x_get E B 0 rfl k_Ge 9 (by decide) wd_124 rfl d_Ge_byteOfTwice_23 ?_
  refine lv_iconst (v := nI 0) E.1 E.2.1 d_Ge_byteOfTwice_26 (by decide) ?_
  refine x_cvX (X' := fun u => [(h0, .inr (3, [.ref kq, .ref cq, .ref pq, .int (nI rs), .int ck, .int lt, .ref dq, .ref e0, .ref rq, .ref tq])), (pq, x_Q G 32 (fun j => some (pa j))), (dq, .inr (1, [.ref d1, .ref d2, .ref d3])), (d1, x_I G 8 u.1), (d2, x_I G 64 u.2), (d3, x_N G 32 (h_dg (pb j) (len j))), (tq, x_N G 32 (va_cpy (h_tw (pb j) (len j)) tt 0 0 32))]) 7 B (x_rV (rest := []) E B (q_Dg_twice G l dq d1 d2 d3 (ba j) (cap j) (len j) tq 32 0 (pb j) go tt Hf w0 (hcap.2) (hcap.1) (hpb) (by omega) (by omega) _) (x_pre B [2, 3, 4, 5, 6] rfl (by decide) (x_ro1 (x_roP (N := 7) rfl B (j := j) (by omega) [2, 3, 4, 5, 6] rfl (by decide)))) 2 rfl k_Dg (gg_V wd_242 wd_243 wd_244 wd_37 wd_245) ⟨rfl, p_Dg_twice⟩ rfl rfl ⟨Nat.le_of_ble_eq_true rfl, Nat.le_of_ble_eq_true rfl⟩ rfl hl.1 rfl (Nat.le_of_ble_eq_true rfl) d_Ge_byteOfTwice_27 ⟨Nat.le_of_ble_eq_true rfl, Nat.le_of_ble_eq_true rfl⟩) [2, 3, 4, 5, 6] [0, 1] rfl rfl (fun _ => rfl) rfl (by decide) (fun _ => rfl) (fun _ => rfl) (fun _ => rfl) (by decide) (fun u27 H locs hw27 B => ?_)
  have B : xB G A s _ _ ([(h0, .inr (3, [.ref kq, .ref cq, .ref pq, .int (nI rs), .int ck, .int lt, .ref dq, .ref e0, .ref rq, .ref tq])), (pq, x_Q G 32 (fun j => some (pa j))), (dq, .inr (1, [.ref d1, .ref d2, .ref d3])), (d1, x_I G 8 u27.1), (d2, x_I G 64 u27.2), (d3, x_N G 32 (h_dg (pb j) (len j))), (tq, x_N G 32 (va_cpy (h_tw (pb j) (len j)) tt 0 0 32))] ++ x_pl G pa ba cap len pb) := B
  have B := B.fn 6 rfl (nA (h_tw (pb j) (len j))) (cp_0)
  have B : xB G A s _ _ ([(h0, .inr (3, [.ref kq, .ref cq, .ref pq, .int (nI rs), .int ck, .int lt, .ref dq, .ref e0, .ref rq, .ref tq])), (pq, x_Q G 32 (fun j => some (pa j))), (dq, .inr (1, [.ref d1, .ref d2, .ref d3])), (d1, x_I G 8 u27.1), (d2, x_I G 64 u27.2), (d3, x_N G 32 (h_dg (pb j) (len j))), (tq, x_N G 32 (h_tw (pb j) (len j)))] ++ x_pl G pa ba cap len pb) := B
  refine lv_aload_n E.1 E.2.1 d_Ge_byteOfTwice_30 rfl (lv_at hl 0 rfl) ?_
  refine x_get E B 0 rfl k_Ge 9 (by decide) wd_124 rfl d_Ge_byteOfTwice_31 ?_
  refine lv_iload_n E.1 E.2.1 d_Ge_byteOfTwice_34 rfl (lv_at hl 2 rfl) ?_
  refine x_aldN E B 6 rfl (i := i) (by omega) (by decide) d_Ge_byteOfTwice_35 ?_
  exact hret _ u27 _ _ _ _ B (rfl) d_Ge_byteOfTwice_36
set_option maxHeartbeats 4000000 in
set_option maxRecDepth 100000 in
theorem q_Ge_reset (G : xG) (l : Launch) (h0 kq cq pq dq e0 rq tq rs : Nat) (ck lt : Int32) (key ctr : Nat → Nat) (pa ba cap len : Nat → Nat) (pb : Nat → Nat → Nat)  : xMv G l y_Ge_reset c_Ge_reset 2 ({ frames := 0, cells := 0, slots := 0, locals := 0 }) [.ref h0] [] ([(h0, .inr (3, [.ref kq, .ref cq, .ref pq, .int (nI rs), .int ck, .int lt, .ref dq, .ref e0, .ref rq, .ref tq])), (kq, x_N G 16 key), (cq, x_N G 16 ctr), (pq, x_Q G 32 (fun j => some (pa j)))] ++ x_pl G pa ba cap len pb) Unit (fun _ => True) (fun u => [(h0, .inr (3, [.ref kq, .ref cq, .ref pq, .int (nI 0), .int (nI 0), .int (-1), .ref dq, .ref e0, .ref rq, .ref tq])), (kq, x_N G 16 (fun _ => 0)), (cq, x_N G 16 (fun _ => 0)), (pq, x_Q G 32 (fun j => some (pa j)))] ++ x_pl G pa ba cap (fun _ => 0) pb) 0 0 := by
  refine xMv.by r_Ge (by decide +kernel) (Nat.le_of_ble_eq_true rfl) rfl ?_
  intro p e s m args below meth c A ls Q E hin B hro hl hret
  have hl : lv_has ls 2 [(0, .ref h0)] := hl
  refine lv_iconst (v := nI 0) E.1 E.2.1 d_Ge_reset_0 (by decide) ?_
  refine lv_istore_n (lv' := [(1, .int (nI 0)), (0, .ref h0)]) E.1 E.2.1 d_Ge_reset_1 rfl hl (by decide) rfl (fun ls hl => ?_)
  have hL2 : ∀ (kf : Nat) (i : Nat), 16 - i < kf → (i ≤ 16) → ∀ (H : Heap) (locs : List Loc) (ls : Array Slot), xB G A s H locs ([(h0, .inr (3, [.ref kq, .ref cq, .ref pq, .int (nI rs), .int ck, .int lt, .ref dq, .ref e0, .ref rq, .ref tq])), (kq, x_N G 16 (mx i (fun _ => 0) key)), (cq, x_N G 16 (mx i (fun _ => 0) ctr)), (pq, x_Q G 32 (fun j => some (pa j)))] ++ x_pl G pa ba cap len pb) → lv_has ls 2 [(1, .int (nI i)), (0, .ref h0)] → W p l e ({ frames := 0, cells := 0, slots := 0, locals := 0 }) s m args below meth c H locs 0 0 Q (F0 m 2 ls []) := by
    intro k2
    induction k2 with
    | zero =>
      intro i hk
      exact absurd hk (Nat.not_lt_zero _)
    | succ k2 ih2 =>
      intro i hk2 hi H locs ls B hl
      refine lv_iload_n E.1 E.2.1 d_Ge_reset_2 rfl (lv_at hl 0 rfl) ?_
      refine lv_bipush (v := nI 16) E.1 E.2.1 d_Ge_reset_3 (by decide) ?_
      refine x_ge (tgt := 28) E d_Ge_reset_5 (by decide) (by omega) (by omega) (fun c1 => ?_) (fun c1 => ?_)
      · obtain rfl : i = 16 := by omega
        have B := B.fn 1 rfl (nA (fun _ => 0)) (mx_e)
        have B : xB G A s _ _ ([(h0, .inr (3, [.ref kq, .ref cq, .ref pq, .int (nI rs), .int ck, .int lt, .ref dq, .ref e0, .ref rq, .ref tq])), (kq, x_N G 16 (fun _ => 0)), (cq, x_N G 16 (mx 16 (fun _ => 0) ctr)), (pq, x_Q G 32 (fun j => some (pa j)))] ++ x_pl G pa ba cap len pb) := B
        have B := B.fn 2 rfl (nA (fun _ => 0)) (mx_e)
        have B : xB G A s _ _ ([(h0, .inr (3, [.ref kq, .ref cq, .ref pq, .int (nI rs), .int ck, .int lt, .ref dq, .ref e0, .ref rq, .ref tq])), (kq, x_N G 16 (fun _ => 0)), (cq, x_N G 16 (fun _ => 0)), (pq, x_Q G 32 (fun j => some (pa j)))] ++ x_pl G pa ba cap len pb) := B
        refine lv_iconst (v := nI 0) E.1 E.2.1 d_Ge_reset_28 (by decide) ?_
        refine lv_istore_n (lv' := [(1, .int (nI 0)), (0, .ref h0)]) E.1 E.2.1 d_Ge_reset_29 rfl hl (by decide) rfl (fun ls hl => ?_)
        have hL30 : ∀ (kf : Nat) (i : Nat), 32 - i < kf → (i ≤ 32) → ∀ (H : Heap) (locs : List Loc) (ls : Array Slot), xB G A s H locs ([(h0, .inr (3, [.ref kq, .ref cq, .ref pq, .int (nI rs), .int ck, .int lt, .ref dq, .ref e0, .ref rq, .ref tq])), (kq, x_N G 16 (fun _ => 0)), (cq, x_N G 16 (fun _ => 0)), (pq, x_Q G 32 (fun j => some (pa j)))] ++ x_pl G pa ba cap (mx i (fun _ => 0) len) pb) → lv_has ls 2 [(1, .int (nI i)), (0, .ref h0)] → W p l e ({ frames := 0, cells := 0, slots := 0, locals := 0 }) s m args below meth c H locs 0 0 Q (F0 m 30 ls []) := by
          intro k30
          induction k30 with
          | zero =>
            intro i hk
            exact absurd hk (Nat.not_lt_zero _)
          | succ k30 ih30 =>
            intro i hk30 hi H locs ls B hl
            refine lv_iload_n E.1 E.2.1 d_Ge_reset_30 rfl (lv_at hl 0 rfl) ?_
            refine lv_bipush (v := nI 32) E.1 E.2.1 d_Ge_reset_31 (by decide) ?_
            refine x_ge (tgt := 52) E d_Ge_reset_33 (by decide) (by omega) (by omega) (fun c2 => ?_) (fun c2 => ?_)
            · obtain rfl : i = 32 := by omega
              have B := B.eq ([(h0, .inr (3, [.ref kq, .ref cq, .ref pq, .int (nI rs), .int ck, .int lt, .ref dq, .ref e0, .ref rq, .ref tq])), (kq, x_N G 16 (fun _ => 0)), (cq, x_N G 16 (fun _ => 0)), (pq, x_Q G 32 (fun j => some (pa j)))] ++ x_pl G pa ba cap (fun _ => 0) pb) (by rw [x_pl_c (len := mx 32 (fun _ => 0) len) (fun j hj => mx_lt hj)])
              refine lv_aload_n E.1 E.2.1 d_Ge_reset_52 rfl (lv_at hl 1 rfl) ?_
              refine lv_iconst (v := nI 0) E.1 E.2.1 d_Ge_reset_53 (by decide) ?_
              refine x_put E B 0 rfl k_Ge 3 (by decide) wd_115 rfl rfl rfl (Nat.le_of_ble_eq_true rfl) d_Ge_reset_54 (fun H locs B => ?_)
              have B : xB G A s _ _ ([(h0, .inr (3, [.ref kq, .ref cq, .ref pq, .int (nI 0), .int ck, .int lt, .ref dq, .ref e0, .ref rq, .ref tq])), (kq, x_N G 16 (fun _ => 0)), (cq, x_N G 16 (fun _ => 0)), (pq, x_Q G 32 (fun j => some (pa j)))] ++ x_pl G pa ba cap (fun _ => 0) pb) := B
              refine lv_aload_n E.1 E.2.1 d_Ge_reset_57 rfl (lv_at hl 1 rfl) ?_
              refine lv_iconst (v := nI 0) E.1 E.2.1 d_Ge_reset_58 (by decide) ?_
              refine x_put E B 0 rfl k_Ge 4 (by decide) wd_117 rfl rfl rfl (Nat.le_of_ble_eq_true rfl) d_Ge_reset_59 (fun H locs B => ?_)
              have B : xB G A s _ _ ([(h0, .inr (3, [.ref kq, .ref cq, .ref pq, .int (nI 0), .int (nI 0), .int lt, .ref dq, .ref e0, .ref rq, .ref tq])), (kq, x_N G 16 (fun _ => 0)), (cq, x_N G 16 (fun _ => 0)), (pq, x_Q G 32 (fun j => some (pa j)))] ++ x_pl G pa ba cap (fun _ => 0) pb) := B
              refine lv_aload_n E.1 E.2.1 d_Ge_reset_62 rfl (lv_at hl 1 rfl) ?_
              refine lv_iconst (v := -1) E.1 E.2.1 d_Ge_reset_63 (by decide) ?_
              refine x_put E B 0 rfl k_Ge 5 (by decide) wd_119 rfl rfl rfl (Nat.le_of_ble_eq_true rfl) d_Ge_reset_64 (fun H locs B => ?_)
              have B : xB G A s _ _ ([(h0, .inr (3, [.ref kq, .ref cq, .ref pq, .int (nI 0), .int (nI 0), .int (-1), .ref dq, .ref e0, .ref rq, .ref tq])), (kq, x_N G 16 (fun _ => 0)), (cq, x_N G 16 (fun _ => 0)), (pq, x_Q G 32 (fun j => some (pa j)))] ++ x_pl G pa ba cap (fun _ => 0) pb) := B
              exact hret () _ _ _ _ B trivial d_Ge_reset_67
            · refine lv_aload_n E.1 E.2.1 d_Ge_reset_36 rfl (lv_at hl 1 rfl) ?_
              refine x_get E B 0 rfl k_Ge 2 (by decide) wd_113 rfl d_Ge_reset_37 ?_
              refine lv_iload_n E.1 E.2.1 d_Ge_reset_40 rfl (lv_at hl 0 rfl) ?_
              refine x_aldp E B 3 rfl (i := i) (by omega) (by decide) d_Ge_reset_41 ?_
              refine lv_iconst (v := nI 0) E.1 E.2.1 d_Ge_reset_42 (by decide) ?_
              refine x_putL (N := 4) E rfl B (j := i) (by omega) wd_67 (v := 0) d_Ge_reset_43 (fun H locs B => ?_)
              have B : xB G A s _ _ ([(h0, .inr (3, [.ref kq, .ref cq, .ref pq, .int (nI rs), .int ck, .int lt, .ref dq, .ref e0, .ref rq, .ref tq])), (kq, x_N G 16 (fun _ => 0)), (cq, x_N G 16 (fun _ => 0)), (pq, x_Q G 32 (fun j => some (pa j)))] ++ x_pl G pa ba cap (va_up (mx i (fun _ => 0) len) i 0) pb) := B
              have B := B.eq ([(h0, .inr (3, [.ref kq, .ref cq, .ref pq, .int (nI rs), .int ck, .int lt, .ref dq, .ref e0, .ref rq, .ref tq])), (kq, x_N G 16 (fun _ => 0)), (cq, x_N G 16 (fun _ => 0)), (pq, x_Q G 32 (fun j => some (pa j)))] ++ x_pl G pa ba cap (mx (i + 1) (fun _ => 0) len) pb) (by rw [mx_up rfl])
              refine x_inc E 1 (lv' := [(1, .int (nI (i + 1))), (0, .ref h0)]) d_Ge_reset_46 hl (k := 0) rfl rfl (by decide) rfl (fun ls hl => ?_)
              refine lv_goto (tgt := 30) E.1 E.2.1 d_Ge_reset_49 (by decide) ?_
              exact ih30  (i + 1) (by omega) (by omega) _ _ _ B (lv_sub hl [0, 1] rfl)
        have B := B.eq ([(h0, .inr (3, [.ref kq, .ref cq, .ref pq, .int (nI rs), .int ck, .int lt, .ref dq, .ref e0, .ref rq, .ref tq])), (kq, x_N G 16 (fun _ => 0)), (cq, x_N G 16 (fun _ => 0)), (pq, x_Q G 32 (fun j => some (pa j)))] ++ x_pl G pa ba cap (mx 0 (fun _ => 0) len) pb) (by rw [show mx 0 (fun _ => 0) len = len from funext (mx_0 _ _)])
        exact hL30 (33) 0 (by omega) (by omega) _ _ _ B (lv_sub hl [0, 1] rfl)
      · refine lv_aload_n E.1 E.2.1 d_Ge_reset_8 rfl (lv_at hl 1 rfl) ?_
        refine x_get E B 0 rfl k_Ge 0 (by decide) wd_109 rfl d_Ge_reset_9 ?_
        refine lv_iload_n E.1 E.2.1 d_Ge_reset_12 rfl (lv_at hl 0 rfl) ?_
        refine lv_iconst (v := nI 0) E.1 E.2.1 d_Ge_reset_13 (by decide) ?_
        refine x_astN E B 1 rfl (i := i) (v := 0) (by omega) (by decide) d_Ge_reset_14 (fun H locs B => ?_)
        have B : xB G A s _ _ ([(h0, .inr (3, [.ref kq, .ref cq, .ref pq, .int (nI rs), .int ck, .int lt, .ref dq, .ref e0, .ref rq, .ref tq])), (kq, x_N G 16 (va_up (mx i (fun _ => 0) key) i 0)), (cq, x_N G 16 (mx i (fun _ => 0) ctr)), (pq, x_Q G 32 (fun j => some (pa j)))] ++ x_pl G pa ba cap len pb) := B
        have B := B.fn 1 rfl (nA (mx (i + 1) (fun _ => 0) key)) (mx_fn rfl)
        have B : xB G A s _ _ ([(h0, .inr (3, [.ref kq, .ref cq, .ref pq, .int (nI rs), .int ck, .int lt, .ref dq, .ref e0, .ref rq, .ref tq])), (kq, x_N G 16 (mx (i + 1) (fun _ => 0) key)), (cq, x_N G 16 (mx i (fun _ => 0) ctr)), (pq, x_Q G 32 (fun j => some (pa j)))] ++ x_pl G pa ba cap len pb) := B
        refine lv_aload_n E.1 E.2.1 d_Ge_reset_15 rfl (lv_at hl 1 rfl) ?_
        refine x_get E B 0 rfl k_Ge 1 (by decide) wd_111 rfl d_Ge_reset_16 ?_
        refine lv_iload_n E.1 E.2.1 d_Ge_reset_19 rfl (lv_at hl 0 rfl) ?_
        refine lv_iconst (v := nI 0) E.1 E.2.1 d_Ge_reset_20 (by decide) ?_
        refine x_astN E B 2 rfl (i := i) (v := 0) (by omega) (by decide) d_Ge_reset_21 (fun H locs B => ?_)
        have B : xB G A s _ _ ([(h0, .inr (3, [.ref kq, .ref cq, .ref pq, .int (nI rs), .int ck, .int lt, .ref dq, .ref e0, .ref rq, .ref tq])), (kq, x_N G 16 (mx (i + 1) (fun _ => 0) key)), (cq, x_N G 16 (va_up (mx i (fun _ => 0) ctr) i 0)), (pq, x_Q G 32 (fun j => some (pa j)))] ++ x_pl G pa ba cap len pb) := B
        have B := B.fn 2 rfl (nA (mx (i + 1) (fun _ => 0) ctr)) (mx_fn rfl)
        have B : xB G A s _ _ ([(h0, .inr (3, [.ref kq, .ref cq, .ref pq, .int (nI rs), .int ck, .int lt, .ref dq, .ref e0, .ref rq, .ref tq])), (kq, x_N G 16 (mx (i + 1) (fun _ => 0) key)), (cq, x_N G 16 (mx (i + 1) (fun _ => 0) ctr)), (pq, x_Q G 32 (fun j => some (pa j)))] ++ x_pl G pa ba cap len pb) := B
        refine x_inc E 1 (lv' := [(1, .int (nI (i + 1))), (0, .ref h0)]) d_Ge_reset_22 hl (k := 0) rfl rfl (by decide) rfl (fun ls hl => ?_)
        refine lv_goto (tgt := 2) E.1 E.2.1 d_Ge_reset_25 (by decide) ?_
        exact ih2  (i + 1) (by omega) (by omega) _ _ _ B (lv_sub hl [0, 1] rfl)
  have B := B.fn 1 rfl (nA (mx 0 (fun _ => 0) key)) (mx_z _ _)
  have B : xB G A s _ _ ([(h0, .inr (3, [.ref kq, .ref cq, .ref pq, .int (nI rs), .int ck, .int lt, .ref dq, .ref e0, .ref rq, .ref tq])), (kq, x_N G 16 (mx 0 (fun _ => 0) key)), (cq, x_N G 16 ctr), (pq, x_Q G 32 (fun j => some (pa j)))] ++ x_pl G pa ba cap len pb) := B
  have B := B.fn 2 rfl (nA (mx 0 (fun _ => 0) ctr)) (mx_z _ _)
  have B : xB G A s _ _ ([(h0, .inr (3, [.ref kq, .ref cq, .ref pq, .int (nI rs), .int ck, .int lt, .ref dq, .ref e0, .ref rq, .ref tq])), (kq, x_N G 16 (mx 0 (fun _ => 0) key)), (cq, x_N G 16 (mx 0 (fun _ => 0) ctr)), (pq, x_Q G 32 (fun j => some (pa j)))] ++ x_pl G pa ba cap len pb) := B
  exact hL2 (17) 0 (by omega) (by omega) _ _ _ B (lv_sub hl [0, 1] rfl)
end
section
set_option maxHeartbeats 4000000 in
set_option maxRecDepth 100000 in
theorem q_Pd_isByte (l : Launch) (x : Int32)  : xMf l y_Pd_isByte c_Pd_isByte 1 .boolean ({ frames := 0, cells := 0, slots := 0, locals := 0 }) [.int x] (nI (c_by x)) := by
  refine xMfz.by r_Pd (by decide +kernel) (Nat.le_of_ble_eq_true rfl) rfl ?_
  intro p e s m args below meth c ls Q E hl hret
  have hl : lv_has ls 1 [(0, .int x)] := hl
  refine lv_iload_n E.1 E.2.1 d_Pd_isByte_0 rfl (lv_at hl 0 rfl) ?_
  refine lv_if_lt (tgt := 15) E.1 E.2.1 d_Pd_isByte_1 (by decide) (fun h1 => ?_) (fun h1 => ?_)
  · refine lv_iconst (v := nI 0) E.1 E.2.1 d_Pd_isByte_15 (by decide) ?_
    exact hret _ _ _ (by first | exact c_by_y h1 h2 | exact c_by_b h2 | exact c_by_a h1) rfl d_Pd_isByte_16
  · refine lv_iload_n E.1 E.2.1 d_Pd_isByte_4 rfl (lv_at hl 0 rfl) ?_
    refine lv_sipush (v := nI 255) E.1 E.2.1 d_Pd_isByte_5 (by decide) ?_
    refine lv_icmp_gt (tgt := 15) E.1 E.2.1 d_Pd_isByte_8 (by decide) (fun h2 => ?_) (fun h2 => ?_)
    · refine lv_iconst (v := nI 0) E.1 E.2.1 d_Pd_isByte_15 (by decide) ?_
      exact hret _ _ _ (by first | exact c_by_y h1 h2 | exact c_by_b h2 | exact c_by_a h1) rfl d_Pd_isByte_16
    · refine lv_iconst (v := nI 1) E.1 E.2.1 d_Pd_isByte_11 (by decide) ?_
      refine lv_goto (tgt := 16) E.1 E.2.1 d_Pd_isByte_12 (by decide) ?_
      exact hret _ _ _ (by first | exact c_by_y h1 h2 | exact c_by_b h2 | exact c_by_a h1) rfl d_Pd_isByte_16
set_option maxHeartbeats 4000000 in
set_option maxRecDepth 100000 in
theorem q_Pd_isPool (l : Launch) (x : Int32)  : xMf l y_Pd_isPool c_Pd_isPool 1 .boolean ({ frames := 0, cells := 0, slots := 0, locals := 0 }) [.int x] (nI (c_po x)) := by
  refine xMfz.by r_Pd (by decide +kernel) (Nat.le_of_ble_eq_true rfl) rfl ?_
  intro p e s m args below meth c ls Q E hl hret
  have hl : lv_has ls 1 [(0, .int x)] := hl
  refine lv_iload_n E.1 E.2.1 d_Pd_isPool_0 rfl (lv_at hl 0 rfl) ?_
  refine lv_if_lt (tgt := 14) E.1 E.2.1 d_Pd_isPool_1 (by decide) (fun h1 => ?_) (fun h1 => ?_)
  · refine lv_iconst (v := nI 0) E.1 E.2.1 d_Pd_isPool_14 (by decide) ?_
    exact hret _ _ _ (by first | exact c_po_y h1 h2 | exact c_po_b h2 | exact c_po_a h1) rfl d_Pd_isPool_15
  · refine lv_iload_n E.1 E.2.1 d_Pd_isPool_4 rfl (lv_at hl 0 rfl) ?_
    refine lv_bipush (v := nI 32) E.1 E.2.1 d_Pd_isPool_5 (by decide) ?_
    refine lv_icmp_ge (tgt := 14) E.1 E.2.1 d_Pd_isPool_7 (by decide) (fun h2 => ?_) (fun h2 => ?_)
    · refine lv_iconst (v := nI 0) E.1 E.2.1 d_Pd_isPool_14 (by decide) ?_
      exact hret _ _ _ (by first | exact c_po_y h1 h2 | exact c_po_b h2 | exact c_po_a h1) rfl d_Pd_isPool_15
    · refine lv_iconst (v := nI 1) E.1 E.2.1 d_Pd_isPool_10 (by decide) ?_
      refine lv_goto (tgt := 15) E.1 E.2.1 d_Pd_isPool_11 (by decide) ?_
      exact hret _ _ _ (by first | exact c_po_y h1 h2 | exact c_po_b h2 | exact c_po_a h1) rfl d_Pd_isPool_15
set_option maxHeartbeats 4000000 in
set_option maxRecDepth 100000 in
theorem q_Pd_byteAt (G : xG) (l : Launch) (rw_ rn cnt : Nat) (x : Int32) (f : Nat → Nat) (hc : cnt ≤ rn) (hn : rn < 100000) : xMr G l y_Pd_byteAt c_Pd_byteAt 3 .int ({ frames := 0, cells := 0, slots := 0, locals := 0 }) [.ref rw_, .int x, .int (nI cnt)] [(rw_, rn, nA f)] [] (c_at f cnt x) := by
  refine xMr.by r_Pd (by decide +kernel) (Nat.le_of_ble_eq_true rfl) rfl ?_
  intro p e s m args below meth c A ls Q E B hro hl hret
  have hl : lv_has ls 3 [(0, .ref rw_), (1, .int x), (2, .int (nI cnt))] := hl
  have hR0 : x_R A s s.heap rw_ rn (nA f) := hro _ (List.mem_of_getElem? (i := 0) rfl)
  refine lv_iload_n E.1 E.2.1 d_Pd_byteAt_0 rfl (lv_at hl 1 rfl) ?_
  refine lv_if_lt (tgt := 15) E.1 E.2.1 d_Pd_byteAt_1 (by decide) (fun h1 => ?_) (fun h1 => ?_)
  · refine lv_iconst (v := -1) E.1 E.2.1 d_Pd_byteAt_15 (by decide) ?_
    exact hret _ _ _ (by first | exact c_at_y hj (by omega) | exact c_at_b h2 | exact c_at_a h1) d_Pd_byteAt_16
  · refine lv_iload_n E.1 E.2.1 d_Pd_byteAt_4 rfl (lv_at hl 1 rfl) ?_
    refine lv_iload_n E.1 E.2.1 d_Pd_byteAt_5 rfl (lv_at hl 2 rfl) ?_
    refine lv_icmp_ge (tgt := 15) E.1 E.2.1 d_Pd_byteAt_6 (by decide) (fun h2 => ?_) (fun h2 => ?_)
    · refine lv_iconst (v := -1) E.1 E.2.1 d_Pd_byteAt_15 (by decide) ?_
      exact hret _ _ _ (by first | exact c_at_y hj (by omega) | exact c_at_b h2 | exact c_at_a h1) d_Pd_byteAt_16
    · obtain ⟨j, hj, rfl⟩ : ∃ j : Nat, j < cnt ∧ x = nI j := x_ix h1 h2 (by omega)
      refine lv_aload_n E.1 E.2.1 d_Pd_byteAt_9 rfl (lv_at hl 0 rfl) ?_
      refine lv_iload_n E.1 E.2.1 d_Pd_byteAt_10 rfl (lv_at hl 1 rfl) ?_
      refine x_tld E B hR0 (i := j) (by omega) (by omega) d_Pd_byteAt_11 ?_
      refine lv_goto (tgt := 16) E.1 E.2.1 d_Pd_byteAt_12 (by decide) ?_
      exact hret _ _ _ (by first | exact c_at_y hj (by omega) | exact c_at_b h2 | exact c_at_a h1) d_Pd_byteAt_16
set_option maxHeartbeats 4000000 in
set_option maxRecDepth 100000 in
theorem q_Pd_startAgain (G : xG) (l : Launch) (h0 gq kd vq sq gc : Nat) (kq cq pq dq e0 rq tq rs : Nat) (ck lt : Int32) (key ctr : Nat → Nat) (pa ba cap len : Nat → Nat) (pb : Nat → Nat → Nat)  : xMv G l y_Pd_startAgain c_Pd_startAgain 1 ({ frames := 1, cells := 0, slots := 0, locals := 21 }) [.ref h0] [] ([(h0, .inr (5, [.ref gq, .ref kd, .ref vq, .int (nI gc), .ref sq])), (gq, .inr (3, [.ref kq, .ref cq, .ref pq, .int (nI rs), .int ck, .int lt, .ref dq, .ref e0, .ref rq, .ref tq])), (kq, x_N G 16 key), (cq, x_N G 16 ctr), (pq, x_Q G 32 (fun j => some (pa j)))] ++ x_pl G pa ba cap len pb) Unit (fun _ => True) (fun u => [(h0, .inr (5, [.ref gq, .ref kd, .ref vq, .int (nI 0), .ref sq])), (gq, .inr (3, [.ref kq, .ref cq, .ref pq, .int (nI 0), .int (nI 0), .int (-1), .ref dq, .ref e0, .ref rq, .ref tq])), (kq, x_N G 16 (fun _ => 0)), (cq, x_N G 16 (fun _ => 0)), (pq, x_Q G 32 (fun j => some (pa j)))] ++ x_pl G pa ba cap (fun _ => 0) pb) 0 0 := by
  refine xMv.by r_Pd (by decide +kernel) (Nat.le_of_ble_eq_true rfl) rfl ?_
  intro p e s m args below meth c A ls Q E hin B hro hl hret
  have hl : lv_has ls 1 [(0, .ref h0)] := hl
  refine lv_aload_n E.1 E.2.1 d_Pd_startAgain_0 rfl (lv_at hl 0 rfl) ?_
  refine x_get E B 0 rfl k_Pd 0 (by decide) wd_165 rfl d_Pd_startAgain_1 ?_
  refine x_cvP (X' := fun u => [(h0, .inr (5, [.ref gq, .ref kd, .ref vq, .int (nI gc), .ref sq])), (gq, .inr (3, [.ref kq, .ref cq, .ref pq, .int (nI 0), .int (nI 0), .int (-1), .ref dq, .ref e0, .ref rq, .ref tq])), (kq, x_N G 16 (fun _ => 0)), (cq, x_N G 16 (fun _ => 0)), (pq, x_Q G 32 (fun j => some (pa j)))]) (pl1 := fun u => x_pl G pa ba cap (fun _ => 0) pb) (wr := [(h0, .inr (5, [.ref gq, .ref kd, .ref vq, .int (nI gc), .ref sq]))]) B (x_rV (rest := []) E B (q_Ge_reset G l gq kq cq pq dq e0 rq tq rs ck lt key ctr pa ba cap len pb  _) (x_preP B [1, 2, 3, 4] rfl (by decide) x_ro0) 1 rfl k_Ge (gg_V wd_189 wd_190 wd_191 wd_35 wd_192) ⟨rfl, p_Ge_reset⟩ rfl rfl ⟨Nat.le_of_ble_eq_true rfl, Nat.le_of_ble_eq_true rfl⟩ rfl hl.1 rfl (Nat.le_of_ble_eq_true rfl) d_Pd_startAgain_4 ⟨Nat.le_of_ble_eq_true rfl, Nat.le_of_ble_eq_true rfl⟩) [1, 2, 3, 4] [0] [0, 1, 2, 3, 4] rfl rfl (by decide) (by decide) (by decide) (fun _ => rfl) (fun u4 H locs hw4 B => ?_)
  have B : xB G A s _ _ ([(h0, .inr (5, [.ref gq, .ref kd, .ref vq, .int (nI gc), .ref sq])), (gq, .inr (3, [.ref kq, .ref cq, .ref pq, .int (nI 0), .int (nI 0), .int (-1), .ref dq, .ref e0, .ref rq, .ref tq])), (kq, x_N G 16 (fun _ => 0)), (cq, x_N G 16 (fun _ => 0)), (pq, x_Q G 32 (fun j => some (pa j)))] ++ x_pl G pa ba cap (fun _ => 0) pb) := B
  refine lv_aload_n E.1 E.2.1 d_Pd_startAgain_7 rfl (lv_at hl 0 rfl) ?_
  refine lv_iconst (v := nI 0) E.1 E.2.1 d_Pd_startAgain_8 (by decide) ?_
  refine x_put E B 0 rfl k_Pd 3 (by decide) wd_168 rfl rfl rfl (Nat.le_of_ble_eq_true rfl) d_Pd_startAgain_9 (fun H locs B => ?_)
  have B : xB G A s _ _ ([(h0, .inr (5, [.ref gq, .ref kd, .ref vq, .int (nI 0), .ref sq])), (gq, .inr (3, [.ref kq, .ref cq, .ref pq, .int (nI 0), .int (nI 0), .int (-1), .ref dq, .ref e0, .ref rq, .ref tq])), (kq, x_N G 16 (fun _ => 0)), (cq, x_N G 16 (fun _ => 0)), (pq, x_Q G 32 (fun j => some (pa j)))] ++ x_pl G pa ba cap (fun _ => 0) pb) := B
  exact hret () _ _ _ _ B trivial d_Pd_startAgain_12
set_option maxHeartbeats 4000000 in
set_option maxRecDepth 100000 in
theorem q_Pd_init (G : xG) (l : Launch) (h0 gq kd vq sq gc : Nat) (kq cq pq dq e0 rq tq rs : Nat) (ck lt : Int32) (bq : Nat) (wr tc : Int32) (key ctr : Nat → Nat) (pa ba cap len : Nat → Nat) (pb : Nat → Nat → Nat)  : xMv G l y_Pd_init c_Pd_init 1 ({ frames := 2, cells := 0, slots := 0, locals := 41 }) [.ref h0] [] ([(h0, .inr (5, [.ref gq, .ref kd, .ref vq, .int (nI gc), .ref sq])), (gq, .inr (3, [.ref kq, .ref cq, .ref pq, .int (nI rs), .int ck, .int lt, .ref dq, .ref e0, .ref rq, .ref tq])), (kq, x_N G 16 key), (cq, x_N G 16 ctr), (pq, x_Q G 32 (fun j => some (pa j))), (kd, .inr (2, [.ref bq, .int wr, .int tc]))] ++ x_pl G pa ba cap len pb) Unit (fun _ => True) (fun u => [(h0, .inr (5, [.ref gq, .ref kd, .ref vq, .int (nI 0), .ref sq])), (gq, .inr (3, [.ref kq, .ref cq, .ref pq, .int (nI 0), .int (nI 0), .int (-1), .ref dq, .ref e0, .ref rq, .ref tq])), (kq, x_N G 16 (fun _ => 0)), (cq, x_N G 16 (fun _ => 0)), (pq, x_Q G 32 (fun j => some (pa j))), (kd, .inr (2, [.ref bq, .int wr, .int (d_tc (nI 0))]))] ++ x_pl G pa ba cap (fun _ => 0) pb) 0 0 := by
  refine xMv.by r_Pd (by decide +kernel) (Nat.le_of_ble_eq_true rfl) rfl ?_
  intro p e s m args below meth c A ls Q E hin B hro hl hret
  have hl : lv_has ls 1 [(0, .ref h0)] := hl
  refine lv_aload_n E.1 E.2.1 d_Pd_init_0 rfl (lv_at hl 0 rfl) ?_
  refine x_cvP (X' := fun u => [(h0, .inr (5, [.ref gq, .ref kd, .ref vq, .int (nI 0), .ref sq])), (gq, .inr (3, [.ref kq, .ref cq, .ref pq, .int (nI 0), .int (nI 0), .int (-1), .ref dq, .ref e0, .ref rq, .ref tq])), (kq, x_N G 16 (fun _ => 0)), (cq, x_N G 16 (fun _ => 0)), (pq, x_Q G 32 (fun j => some (pa j))), (kd, .inr (2, [.ref bq, .int wr, .int tc]))]) (pl1 := fun u => x_pl G pa ba cap (fun _ => 0) pb) (wr := [(kd, .inr (2, [.ref bq, .int wr, .int tc]))]) B (x_rV (rest := []) E B (q_Pd_startAgain G l h0 gq kd vq sq gc kq cq pq dq e0 rq tq rs ck lt key ctr pa ba cap len pb  _) (x_preP B [0, 1, 2, 3, 4] rfl (by decide) x_ro0) 0 rfl k_Pd (gg_V wd_185 wd_187 wd_0 wd_34 wd_188) ⟨rfl, p_Pd_startAgain⟩ rfl rfl ⟨Nat.le_of_ble_eq_true rfl, Nat.le_of_ble_eq_true rfl⟩ rfl hl.1 rfl (Nat.le_of_ble_eq_true rfl) d_Pd_init_1 ⟨Nat.le_of_ble_eq_true rfl, Nat.le_of_ble_eq_true rfl⟩) [0, 1, 2, 3, 4] [5] [1, 2, 3, 4, 5, 0] rfl rfl (by decide) (by decide) (by decide) (fun _ => rfl) (fun u1 H locs hw1 B => ?_)
  have B : xB G A s _ _ ([(h0, .inr (5, [.ref gq, .ref kd, .ref vq, .int (nI 0), .ref sq])), (gq, .inr (3, [.ref kq, .ref cq, .ref pq, .int (nI 0), .int (nI 0), .int (-1), .ref dq, .ref e0, .ref rq, .ref tq])), (kq, x_N G 16 (fun _ => 0)), (cq, x_N G 16 (fun _ => 0)), (pq, x_Q G 32 (fun j => some (pa j))), (kd, .inr (2, [.ref bq, .int wr, .int tc]))] ++ x_pl G pa ba cap (fun _ => 0) pb) := B
  refine lv_aload_n E.1 E.2.1 d_Pd_init_4 rfl (lv_at hl 0 rfl) ?_
  refine x_get E B 0 rfl k_Pd 1 (by decide) wd_166 rfl d_Pd_init_5 ?_
  refine lv_iconst (v := nI 0) E.1 E.2.1 d_Pd_init_8 (by decide) ?_
  refine x_cvX (X' := fun u => [(h0, .inr (5, [.ref gq, .ref kd, .ref vq, .int (nI 0), .ref sq])), (gq, .inr (3, [.ref kq, .ref cq, .ref pq, .int (nI 0), .int (nI 0), .int (-1), .ref dq, .ref e0, .ref rq, .ref tq])), (kq, x_N G 16 (fun _ => 0)), (cq, x_N G 16 (fun _ => 0)), (pq, x_Q G 32 (fun j => some (pa j))), (kd, .inr (2, [.ref bq, .int wr, .int (d_tc (nI 0))]))]) 6 B (x_rV (rest := []) E B (q_Dk_tellCrash G l kd bq wr tc (nI 0)  _) (x_pre B [5] rfl (by decide) x_ro0) 5 rfl k_Dk (gg_V wd_193 wd_194 wd_195 wd_39 wd_196) ⟨rfl, p_Dk_tellCrash⟩ rfl rfl ⟨Nat.le_of_ble_eq_true rfl, Nat.le_of_ble_eq_true rfl⟩ rfl hl.1 rfl (Nat.le_of_ble_eq_true rfl) d_Pd_init_9 ⟨Nat.le_of_ble_eq_true rfl, Nat.le_of_ble_eq_true rfl⟩) [5] [0, 1, 2, 3, 4] rfl rfl (fun _ => rfl) rfl (by decide) (fun _ => rfl) (fun _ => rfl) (fun _ => rfl) (by decide) (fun u9 H locs hw9 B => ?_)
  have B : xB G A s _ _ ([(h0, .inr (5, [.ref gq, .ref kd, .ref vq, .int (nI 0), .ref sq])), (gq, .inr (3, [.ref kq, .ref cq, .ref pq, .int (nI 0), .int (nI 0), .int (-1), .ref dq, .ref e0, .ref rq, .ref tq])), (kq, x_N G 16 (fun _ => 0)), (cq, x_N G 16 (fun _ => 0)), (pq, x_Q G 32 (fun j => some (pa j))), (kd, .inr (2, [.ref bq, .int wr, .int (d_tc (nI 0))]))] ++ x_pl G pa ba cap (fun _ => 0) pb) := B
  exact hret () _ _ _ _ B trivial d_Pd_init_12
set_option maxHeartbeats 4000000 in
set_option maxRecDepth 100000 in
theorem q_Pd_tick (G : xG) (l : Launch) (h0 gq kd vq sq gc : Nat) (kq cq pq dq e0 rq tq rs : Nat) (ck lt : Int32) (ms : Int32)  : xMi G l y_Pd_tick c_Pd_tick 2 .int ({ frames := 1, cells := 0, slots := 0, locals := 21 }) [.ref h0, .int ms] [] [(h0, .inr (5, [.ref gq, .ref kd, .ref vq, .int (nI gc), .ref sq])), (gq, .inr (3, [.ref kq, .ref cq, .ref pq, .int (nI rs), .int ck, .int lt, .ref dq, .ref e0, .ref rq, .ref tq]))] Unit (fun r _ => r = c_pt ck ms) (fun u => [(h0, .inr (5, [.ref gq, .ref kd, .ref vq, .int (nI gc), .ref sq])), (gq, .inr (3, [.ref kq, .ref cq, .ref pq, .int (nI rs), .int (c_pt ck ms), .int lt, .ref dq, .ref e0, .ref rq, .ref tq]))]) 0 0 := by
  refine xMi.by r_Pd (by decide +kernel) (Nat.le_of_ble_eq_true rfl) rfl ?_
  intro p e s m args below meth c A ls Q E B hro hl hret
  have hl : lv_has ls 2 [(0, .ref h0), (1, .int ms)] := hl
  refine lv_aload_n E.1 E.2.1 d_Pd_tick_0 rfl (lv_at hl 0 rfl) ?_
  refine x_get E B 0 rfl k_Pd 0 (by decide) wd_165 rfl d_Pd_tick_1 ?_
  refine lv_iload_n E.1 E.2.1 d_Pd_tick_4 rfl (lv_at hl 1 rfl) ?_
  refine x_ci (ws' := (fun u => [(h0, .inr (5, [.ref gq, .ref kd, .ref vq, .int (nI gc), .ref sq])), (gq, .inr (3, [.ref kq, .ref cq, .ref pq, .int (nI rs), .int (c_pt ck ms), .int lt, .ref dq, .ref e0, .ref rq, .ref tq]))])) (wr := [(h0, .inr (5, [.ref gq, .ref kd, .ref vq, .int (nI gc), .ref sq]))]) B (x_rV (rest := []) E B (q_Ge_passTime G l gq kq cq pq dq e0 rq tq rs ck lt ms  _) (x_pre B [1] rfl (by decide) x_ro0) 1 rfl k_Ge (gg_V wd_222 wd_223 wd_224 wd_35 wd_225) ⟨rfl, p_Ge_passTime⟩ rfl rfl ⟨Nat.le_of_ble_eq_true rfl, Nat.le_of_ble_eq_true rfl⟩ rfl hl.1 rfl (Nat.le_of_ble_eq_true rfl) d_Pd_tick_5 ⟨Nat.le_of_ble_eq_true rfl, Nat.le_of_ble_eq_true rfl⟩) [1] [0] [0, 1] rfl rfl (by decide) (by decide) (by decide) (fun _ => rfl) (fun r5 u5 H locs hw5 B => ?_)
  subst hw5
  have B : xB G A s _ _ ([(h0, .inr (5, [.ref gq, .ref kd, .ref vq, .int (nI gc), .ref sq])), (gq, .inr (3, [.ref kq, .ref cq, .ref pq, .int (nI rs), .int (c_pt ck ms), .int lt, .ref dq, .ref e0, .ref rq, .ref tq]))]) := B
  exact hret _ () _ _ _ _ B (rfl) d_Pd_tick_8
set_option maxHeartbeats 4000000 in
set_option maxRecDepth 100000 in
theorem q_Pd_crash (G : xG) (l : Launch) (h0 gq kd vq sq gc : Nat) (bq : Nat) (wr tc : Int32) (x : Int32)  : xMv G l y_Pd_crash c_Pd_crash 2 ({ frames := 1, cells := 0, slots := 0, locals := 21 }) [.ref h0, .int x] [] [(h0, .inr (5, [.ref gq, .ref kd, .ref vq, .int (nI gc), .ref sq])), (kd, .inr (2, [.ref bq, .int wr, .int tc]))] Unit (fun _ => True) (fun u => [(h0, .inr (5, [.ref gq, .ref kd, .ref vq, .int (nI gc), .ref sq])), (kd, .inr (2, [.ref bq, .int wr, .int (d_tc x)]))]) 0 0 := by
  refine xMv.by r_Pd (by decide +kernel) (Nat.le_of_ble_eq_true rfl) rfl ?_
  intro p e s m args below meth c A ls Q E hin B hro hl hret
  have hl : lv_has ls 2 [(0, .ref h0), (1, .int x)] := hl
  refine lv_aload_n E.1 E.2.1 d_Pd_crash_0 rfl (lv_at hl 0 rfl) ?_
  refine x_get E B 0 rfl k_Pd 1 (by decide) wd_166 rfl d_Pd_crash_1 ?_
  refine lv_iload_n E.1 E.2.1 d_Pd_crash_4 rfl (lv_at hl 1 rfl) ?_
  refine x_cv (ws' := (fun u => [(h0, .inr (5, [.ref gq, .ref kd, .ref vq, .int (nI gc), .ref sq])), (kd, .inr (2, [.ref bq, .int wr, .int (d_tc x)]))])) (wr := [(h0, .inr (5, [.ref gq, .ref kd, .ref vq, .int (nI gc), .ref sq]))]) B (x_rV (rest := []) E B (q_Dk_tellCrash G l kd bq wr tc x  _) (x_pre B [1] rfl (by decide) x_ro0) 1 rfl k_Dk (gg_V wd_193 wd_194 wd_195 wd_39 wd_196) ⟨rfl, p_Dk_tellCrash⟩ rfl rfl ⟨Nat.le_of_ble_eq_true rfl, Nat.le_of_ble_eq_true rfl⟩ rfl hl.1 rfl (Nat.le_of_ble_eq_true rfl) d_Pd_crash_5 ⟨Nat.le_of_ble_eq_true rfl, Nat.le_of_ble_eq_true rfl⟩) [1] [0] [0, 1] rfl rfl (by decide) (by decide) (by decide) (fun _ => rfl) (fun u5 H locs hw5 B => ?_)
  have B : xB G A s _ _ ([(h0, .inr (5, [.ref gq, .ref kd, .ref vq, .int (nI gc), .ref sq])), (kd, .inr (2, [.ref bq, .int wr, .int (d_tc x)]))]) := B
  exact hret () _ _ _ _ B trivial d_Pd_crash_8
set_option maxHeartbeats 4000000 in
set_option maxRecDepth 100000 in
theorem q_Pd_event_n (G : xG) (l : Launch) (h0 : Nat) (x y z : Int32) (hv : ¬ (c_by x = 1 ∧ c_po y = 1 ∧ c_by z = 1)) : xMr G l y_Pd_event c_Pd_event 4 .boolean ({ frames := 1, cells := 0, slots := 0, locals := 20 }) [.ref h0, .int x, .int y, .int z] [] [] (nI 0) := by
  refine xMrz.by r_Pd (by decide +kernel) (Nat.le_of_ble_eq_true rfl) rfl ?_
  intro p e s m args below meth c A ls Q E B hro hl hret
  have hl : lv_has ls 4 [(0, .ref h0), (1, .int x), (2, .int y), (3, .int z)] := hl
  refine lv_iload_n E.1 E.2.1 d_Pd_event_0 rfl (lv_at hl 1 rfl) ?_
  refine x_cf (x_rS (rest := []) E (q_Pd_isByte l x ) x_pf (gg_S wd_201 wd_202 wd_34 wd_203) p_Pd_isByte rfl rfl ⟨Nat.le_of_ble_eq_true rfl, Nat.le_of_ble_eq_true rfl⟩ rfl hl.1 rfl (Nat.le_of_ble_eq_true rfl) d_Pd_event_1 ⟨Nat.le_of_ble_eq_true rfl, Nat.le_of_ble_eq_true rfl⟩) ?_
  refine x_if0 (tgt := 21) E d_Pd_event_4 (by decide) (by have := c_by_le x; omega) (fun h1 => ?_) (fun h1 => ?_)
  · refine lv_iconst (v := nI 0) E.1 E.2.1 d_Pd_event_21 (by decide) ?_
    exact hret _ _ _ (rfl) rfl d_Pd_event_22
  · refine lv_iload_n E.1 E.2.1 d_Pd_event_7 rfl (lv_at hl 2 rfl) ?_
    refine x_cf (x_rS (rest := []) E (q_Pd_isPool l y ) x_pf (gg_S wd_204 wd_205 wd_34 wd_206) p_Pd_isPool rfl rfl ⟨Nat.le_of_ble_eq_true rfl, Nat.le_of_ble_eq_true rfl⟩ rfl hl.1 rfl (Nat.le_of_ble_eq_true rfl) d_Pd_event_8 ⟨Nat.le_of_ble_eq_true rfl, Nat.le_of_ble_eq_true rfl⟩) ?_
    refine x_if0 (tgt := 21) E d_Pd_event_11 (by decide) (by have := c_po_le y; omega) (fun h2 => ?_) (fun h2 => ?_)
    · refine lv_iconst (v := nI 0) E.1 E.2.1 d_Pd_event_21 (by decide) ?_
      exact hret _ _ _ (rfl) rfl d_Pd_event_22
    · refine lv_iload_n E.1 E.2.1 d_Pd_event_14 rfl (lv_at hl 3 rfl) ?_
      refine x_cf (x_rS (rest := []) E (q_Pd_isByte l z ) x_pf (gg_S wd_201 wd_202 wd_34 wd_203) p_Pd_isByte rfl rfl ⟨Nat.le_of_ble_eq_true rfl, Nat.le_of_ble_eq_true rfl⟩ rfl hl.1 rfl (Nat.le_of_ble_eq_true rfl) d_Pd_event_15 ⟨Nat.le_of_ble_eq_true rfl, Nat.le_of_ble_eq_true rfl⟩) ?_
      refine x_ifn (tgt := 23) E d_Pd_event_18 (by decide) (by have := c_by_le z; omega) (fun h3 => ?_) (fun h3 => ?_)
      · exfalso; have := c_by_le x; have := c_po_le y; have := c_by_le z; exact hv ⟨by omega, by omega, by omega⟩
      · refine lv_iconst (v := nI 0) E.1 E.2.1 d_Pd_event_21 (by decide) ?_
        exact hret _ _ _ (rfl) rfl d_Pd_event_22
set_option maxHeartbeats 4000000 in
set_option maxRecDepth 100000 in
theorem q_Pd_event_y (G : xG) (l : Launch) (h0 gq kd vq sq gc : Nat) (kq cq pq dq e0 rq tq rs : Nat) (ck lt : Int32) (sr j b : Nat) (pa ba cap len : Nat → Nat) (pb : Nat → Nat → Nat) (hs : sr < 256) (hj : j < 32) (hb : b < 256) (hcap : len j ≤ cap j ∧ 12 ≤ cap j ∧ cap j ≤ 3072 ∧ len j + 3 ≤ 1536) : xMi G l y_Pd_event c_Pd_event 4 .boolean ({ frames := 3, cells := 1, slots := 3072, locals := 103 }) [.ref h0, .int (nI sr), .int (nI j), .int (nI b)] [] ([(h0, .inr (5, [.ref gq, .ref kd, .ref vq, .int (nI gc), .ref sq])), (gq, .inr (3, [.ref kq, .ref cq, .ref pq, .int (nI rs), .int ck, .int lt, .ref dq, .ref e0, .ref rq, .ref tq])), (pq, x_Q G 32 (fun j => some (pa j)))] ++ x_pl G pa ba cap len pb) (Nat × Nat × (Nat → Nat)) (fun r u => r = nI 1 ∧ 12 ≤ u.2.1 ∧ u.2.1 ≤ 3072 ∧ len j + 3 ≤ u.2.1 ∧ ∀ k, k < len j + 3 → u.2.2 k = p_ev (pb j) (len j) sr b k) (fun u => [(h0, .inr (5, [.ref gq, .ref kd, .ref vq, .int (nI gc), .ref sq])), (gq, .inr (3, [.ref kq, .ref cq, .ref pq, .int (nI rs), .int ck, .int lt, .ref dq, .ref e0, .ref rq, .ref tq])), (pq, x_Q G 32 (fun j => some (pa j)))] ++ x_pl G pa (va_up ba j u.1) (va_up cap j u.2.1) (va_up len j (len j + 3)) (va_up pb j u.2.2)) 1 3072 := by
  refine xMz.by r_Pd (by decide +kernel) (Nat.le_of_ble_eq_true rfl) rfl ?_
  intro p e s m args below meth c A ls Q E B hro hl hret
  have hl : lv_has ls 4 [(0, .ref h0), (1, .int (nI sr)), (2, .int (nI j)), (3, .int (nI b))] := hl
  refine lv_iload_n E.1 E.2.1 d_Pd_event_0 rfl (lv_at hl 1 rfl) ?_
  refine x_cf (x_rS (rest := []) E (q_Pd_isByte l (nI sr) ) x_pf (gg_S wd_201 wd_202 wd_34 wd_203) p_Pd_isByte rfl rfl ⟨Nat.le_of_ble_eq_true rfl, Nat.le_of_ble_eq_true rfl⟩ rfl hl.1 rfl (Nat.le_of_ble_eq_true rfl) d_Pd_event_1 ⟨Nat.le_of_ble_eq_true rfl, Nat.le_of_ble_eq_true rfl⟩) ?_
  refine x_top (show nI (c_by (nI sr)) = nI 1 from congrArg nI (by exact c_by_n hs)) ?_
  refine x_if0 (tgt := 21) E d_Pd_event_4 (by decide) (by omega) (fun c1 => ?_) (fun c1 => ?_)
  · exfalso; omega
  · refine lv_iload_n E.1 E.2.1 d_Pd_event_7 rfl (lv_at hl 2 rfl) ?_
    refine x_cf (x_rS (rest := []) E (q_Pd_isPool l (nI j) ) x_pf (gg_S wd_204 wd_205 wd_34 wd_206) p_Pd_isPool rfl rfl ⟨Nat.le_of_ble_eq_true rfl, Nat.le_of_ble_eq_true rfl⟩ rfl hl.1 rfl (Nat.le_of_ble_eq_true rfl) d_Pd_event_8 ⟨Nat.le_of_ble_eq_true rfl, Nat.le_of_ble_eq_true rfl⟩) ?_
    refine x_top (show nI (c_po (nI j)) = nI 1 from congrArg nI (by exact c_po_n hj)) ?_
    refine x_if0 (tgt := 21) E d_Pd_event_11 (by decide) (by omega) (fun c2 => ?_) (fun c2 => ?_)
    · exfalso; omega
    · refine lv_iload_n E.1 E.2.1 d_Pd_event_14 rfl (lv_at hl 3 rfl) ?_
      refine x_cf (x_rS (rest := []) E (q_Pd_isByte l (nI b) ) x_pf (gg_S wd_201 wd_202 wd_34 wd_203) p_Pd_isByte rfl rfl ⟨Nat.le_of_ble_eq_true rfl, Nat.le_of_ble_eq_true rfl⟩ rfl hl.1 rfl (Nat.le_of_ble_eq_true rfl) d_Pd_event_15 ⟨Nat.le_of_ble_eq_true rfl, Nat.le_of_ble_eq_true rfl⟩) ?_
      refine x_top (show nI (c_by (nI b)) = nI 1 from congrArg nI (by exact c_by_n hb)) ?_
      refine x_ifn (tgt := 23) E d_Pd_event_18 (by decide) (by omega) (fun c3 => ?_) (fun c3 => ?_)
      · refine lv_aload_n E.1 E.2.1 d_Pd_event_23 rfl (lv_at hl 0 rfl) ?_
        refine x_get E B 0 rfl k_Pd 0 (by decide) wd_165 rfl d_Pd_event_24 ?_
        refine x_get E B 1 rfl k_Ge 2 (by decide) wd_114 rfl d_Pd_event_27 ?_
        refine lv_iload_n E.1 E.2.1 d_Pd_event_30 rfl (lv_at hl 2 rfl) ?_
        refine x_aldp E B 2 rfl (i := j) (by omega) (by decide) d_Pd_event_31 ?_
        refine lv_iload_n E.1 E.2.1 d_Pd_event_32 rfl (lv_at hl 1 rfl) ?_
        refine lv_iload_n E.1 E.2.1 d_Pd_event_33 rfl (lv_at hl 3 rfl) ?_
        refine x_ciI B (x_rV (rest := []) E B (q_Po_add G l (pa j) (ba j) (cap j) (len j) sr b (pb j) (hcap.1) (hcap.2.1) (hcap.2.2.1) (hcap.2.2.2) _) (x_pre B [3 + j, 3 + (32 + j)] (x_plC rfl (by omega)) x_plN x_ro0) (3 + j) (x_plO rfl (by omega)) k_Po (gg_V wd_207 wd_208 wd_209 wd_36 wd_210) ⟨rfl, p_Po_add⟩ rfl rfl ⟨Nat.le_of_ble_eq_true rfl, Nat.le_of_ble_eq_true rfl⟩ rfl hl.1 rfl (Nat.le_of_ble_eq_true rfl) d_Pd_event_34 ⟨Nat.le_of_ble_eq_true rfl, Nat.le_of_ble_eq_true rfl⟩) [3 + j, 3 + (32 + j)] (x_plC rfl (by omega)) x_plN (fun _ => rfl) (fun r u H locs hw B => ?_)
        have B := B.eq ([(h0, .inr (5, [.ref gq, .ref kd, .ref vq, .int (nI gc), .ref sq])), (gq, .inr (3, [.ref kq, .ref cq, .ref pq, .int (nI rs), .int ck, .int lt, .ref dq, .ref e0, .ref rq, .ref tq])), (pq, x_Q G 32 (fun j => some (pa j)))] ++ x_pl G pa (va_up ba j u.1) (va_up cap j u.2.1) (va_up len j (len j + 3)) (va_up pb j u.2.2)) (x_plW rfl (by omega) _ _ _ _)
        exact hret _ u _ _ _ _ B (hw) (by rw [hw.1]; rfl) d_Pd_event_37
      · exfalso; omega
end
section
set_option maxHeartbeats 4000000 in
set_option maxRecDepth 100000 in
theorem q_Pd_request_n (G : xG) (l : Launch) (h0 : Nat) (x : Int32) (hv : ¬ (¬ x < nI 1 ∧ x ≤ nI 256)) : xMr G l y_Pd_request c_Pd_request 2 .int ({ frames := 0, cells := 0, slots := 0, locals := 0 }) [.ref h0, .int x] [] [] (-1) := by
  refine xMr.by r_Pd (by decide +kernel) (Nat.le_of_ble_eq_true rfl) rfl ?_
  intro p e s m args below meth c A ls Q E B hro hl hret
  have hl : lv_has ls 2 [(0, .ref h0), (1, .int x)] := hl
  refine lv_iload_n E.1 E.2.1 d_Pd_request_0 rfl (lv_at hl 1 rfl) ?_
  refine lv_iconst (v := nI 1) E.1 E.2.1 d_Pd_request_1 (by decide) ?_
  refine lv_icmp_lt (tgt := 12) E.1 E.2.1 d_Pd_request_2 (by decide) (fun h1 => ?_) (fun h1 => ?_)
  · refine lv_iconst (v := -1) E.1 E.2.1 d_Pd_request_12 (by decide) ?_
    exact hret _ _ _ (rfl) d_Pd_request_13
  · refine lv_iload_n E.1 E.2.1 d_Pd_request_5 rfl (lv_at hl 1 rfl) ?_
    refine lv_sipush (v := nI 256) E.1 E.2.1 d_Pd_request_6 (by decide) ?_
    refine lv_icmp_le (tgt := 14) E.1 E.2.1 d_Pd_request_9 (by decide) (fun h2 => ?_) (fun h2 => ?_)
    · exfalso; exact hv ⟨h1, h2⟩
    · refine lv_iconst (v := -1) E.1 E.2.1 d_Pd_request_12 (by decide) ?_
      exact hret _ _ _ (rfl) d_Pd_request_13
set_option maxHeartbeats 4000000 in
set_option maxRecDepth 100000 in
theorem q_Pd_request_00 (G : xG) (l : Launch) (h0 gq kd vq sq gc : Nat) (kq cq pq dq e0 rq tq rs : Nat) (ck lt : Int32) (d1 d2 d3 : Nat) (Hf w0 : Nat → Int32) (go : Nat → Nat) (e1 e2 e3 : Nat) (k0 s0 v0 : Nat → Nat) (n_ nb : Nat) (key ctr rr tt gv : Nat → Nat) (pa ba cap len : Nat → Nat) (pb : Nat → Nat → Nat) (hn1 : 1 ≤ n_) (hn2 : n_ ≤ 256) (hnb : nb = (n_ + 15) / 16) (hk : g_bt 16 key) (hb : g_bt 16 ctr) (hrs : rs < 100000) (hcap : ∀ j, j < 32 → cap j < 100000 ∧ len j ≤ cap j) (hpb : ∀ j, j < 32 → ∀ k, k < len j → pb j k < 256) (hdu : c_du (len 0) ck lt = 0) (hsd : g_sd ctr = 0) : xMi G l y_Pd_request c_Pd_request 2 .int ({ frames := 6, cells := 0, slots := 0, locals := 151 }) [.ref h0, .int (nI n_)] [] ([(h0, .inr (5, [.ref gq, .ref kd, .ref vq, .int (nI gc), .ref sq])), (gq, .inr (3, [.ref kq, .ref cq, .ref pq, .int (nI rs), .int ck, .int lt, .ref dq, .ref e0, .ref rq, .ref tq])), (kq, x_N G 16 key), (cq, x_N G 16 ctr), (pq, x_Q G 32 (fun j => some (pa j))), (dq, .inr (1, [.ref d1, .ref d2, .ref d3])), (d1, x_I G 8 Hf), (d2, x_I G 64 w0), (d3, x_N G 32 go), (e0, .inr (0, [.ref e1, .ref e2, .ref e3])), (e1, x_N G 176 k0), (e2, x_N G 16 s0), (e3, x_N G 16 v0), (rq, x_N G 1040 rr), (tq, x_N G 32 tt), (vq, x_N G 256 gv)] ++ x_pl G pa ba cap len pb) Unit (fun r _ => r = (-2)) (fun u => [(h0, .inr (5, [.ref gq, .ref kd, .ref vq, .int (nI gc), .ref sq])), (gq, .inr (3, [.ref kq, .ref cq, .ref pq, .int (nI rs), .int ck, .int lt, .ref dq, .ref e0, .ref rq, .ref tq])), (kq, x_N G 16 key), (cq, x_N G 16 ctr), (pq, x_Q G 32 (fun j => some (pa j))), (dq, .inr (1, [.ref d1, .ref d2, .ref d3])), (d1, x_I G 8 Hf), (d2, x_I G 64 w0), (d3, x_N G 32 go), (e0, .inr (0, [.ref e1, .ref e2, .ref e3])), (e1, x_N G 176 k0), (e2, x_N G 16 s0), (e3, x_N G 16 v0), (rq, x_N G 1040 rr), (tq, x_N G 32 tt), (vq, x_N G 256 gv)] ++ x_pl G pa ba cap len pb) 0 0 := by
  refine xMi.by r_Pd (by decide +kernel) (Nat.le_of_ble_eq_true rfl) rfl ?_
  intro p e s m args below meth c A ls Q E B hro hl hret
  have hl : lv_has ls 2 [(0, .ref h0), (1, .int (nI n_))] := hl
  refine lv_iload_n E.1 E.2.1 d_Pd_request_0 rfl (lv_at hl 1 rfl) ?_
  refine lv_iconst (v := nI 1) E.1 E.2.1 d_Pd_request_1 (by decide) ?_
  refine x_lt (tgt := 12) E d_Pd_request_2 (by decide) (by omega) (by omega) (fun c1 => ?_) (fun c1 => ?_)
  · exfalso; omega
  · refine lv_iload_n E.1 E.2.1 d_Pd_request_5 rfl (lv_at hl 1 rfl) ?_
    refine lv_sipush (v := nI 256) E.1 E.2.1 d_Pd_request_6 (by decide) ?_
    refine x_le (tgt := 14) E d_Pd_request_9 (by decide) (by omega) (by omega) (fun c2 => ?_) (fun c2 => ?_)
    · refine lv_aload_n E.1 E.2.1 d_Pd_request_14 rfl (lv_at hl 0 rfl) ?_
      refine x_get E B 0 rfl k_Pd 0 (by decide) wd_165 rfl d_Pd_request_15 ?_
      refine x_cf (x_rV (rest := []) E B (q_Ge_isDrawingDue G l gq kq cq pq dq e0 rq tq rs ck lt pa ba cap len pb (by have := hcap 0 (by decide); omega) _) (x_preP B [1, 4] rfl (by decide) x_ro0) 1 rfl k_Ge (gg_V wd_231 wd_232 wd_233 wd_35 wd_234) ⟨rfl, p_Ge_isDrawingDue⟩ rfl rfl ⟨Nat.le_of_ble_eq_true rfl, Nat.le_of_ble_eq_true rfl⟩ rfl hl.1 rfl (Nat.le_of_ble_eq_true rfl) d_Pd_request_18 ⟨Nat.le_of_ble_eq_true rfl, Nat.le_of_ble_eq_true rfl⟩) ?_
      refine x_top (show nI (c_du (len 0) ck lt) = nI 0 from congrArg nI (by exact hdu)) ?_
      refine x_if0 (tgt := 31) E d_Pd_request_21 (by decide) (by omega) (fun c3 => ?_) (fun c3 => ?_)
      · refine lv_aload_n E.1 E.2.1 d_Pd_request_31 rfl (lv_at hl 0 rfl) ?_
        refine x_get E B 0 rfl k_Pd 0 (by decide) wd_165 rfl d_Pd_request_32 ?_
        refine x_cf (x_rV (rest := []) E B (q_Ge_isSeeded G l gq kq cq pq dq e0 rq tq rs ck lt ctr (hb) _) (x_pre B [1, 3] rfl (by decide) x_ro0) 1 rfl k_Ge (gg_V wd_285 wd_286 wd_287 wd_35 wd_288) ⟨rfl, p_Ge_isSeeded⟩ rfl rfl ⟨Nat.le_of_ble_eq_true rfl, Nat.le_of_ble_eq_true rfl⟩ rfl hl.1 rfl (Nat.le_of_ble_eq_true rfl) d_Pd_request_35 ⟨Nat.le_of_ble_eq_true rfl, Nat.le_of_ble_eq_true rfl⟩) ?_
        refine x_top (show nI (g_sd ctr) = nI 0 from congrArg nI (by exact hsd)) ?_
        refine x_ifn (tgt := 44) E d_Pd_request_38 (by decide) (by omega) (fun c4 => ?_) (fun c4 => ?_)
        · exfalso; omega
        · refine lv_bipush (v := -2) E.1 E.2.1 d_Pd_request_41 (by decide) ?_
          exact hret _ () _ _ _ _ B (rfl) d_Pd_request_43
      · exfalso; omega
    · exfalso; omega
set_option maxHeartbeats 4000000 in
set_option maxRecDepth 100000 in
theorem q_Pd_request_01 (G : xG) (l : Launch) (h0 gq kd vq sq gc : Nat) (kq cq pq dq e0 rq tq rs : Nat) (ck lt : Int32) (d1 d2 d3 : Nat) (Hf w0 : Nat → Int32) (go : Nat → Nat) (e1 e2 e3 : Nat) (k0 s0 v0 : Nat → Nat) (n_ nb : Nat) (key ctr rr tt gv : Nat → Nat) (pa ba cap len : Nat → Nat) (pb : Nat → Nat → Nat) (hn1 : 1 ≤ n_) (hn2 : n_ ≤ 256) (hnb : nb = (n_ + 15) / 16) (hk : g_bt 16 key) (hb : g_bt 16 ctr) (hrs : rs < 100000) (hcap : ∀ j, j < 32 → cap j < 100000 ∧ len j ≤ cap j) (hpb : ∀ j, j < 32 → ∀ k, k < len j → pb j k < 256) (hdu : c_du (len 0) ck lt = 0) (hsd : g_sd ctr = 1) : xMi G l y_Pd_request c_Pd_request 2 .int ({ frames := 6, cells := 0, slots := 0, locals := 151 }) [.ref h0, .int (nI n_)] [] ([(h0, .inr (5, [.ref gq, .ref kd, .ref vq, .int (nI gc), .ref sq])), (gq, .inr (3, [.ref kq, .ref cq, .ref pq, .int (nI rs), .int ck, .int lt, .ref dq, .ref e0, .ref rq, .ref tq])), (kq, x_N G 16 key), (cq, x_N G 16 ctr), (pq, x_Q G 32 (fun j => some (pa j))), (dq, .inr (1, [.ref d1, .ref d2, .ref d3])), (d1, x_I G 8 Hf), (d2, x_I G 64 w0), (d3, x_N G 32 go), (e0, .inr (0, [.ref e1, .ref e2, .ref e3])), (e1, x_N G 176 k0), (e2, x_N G 16 s0), (e3, x_N G 16 v0), (rq, x_N G 1040 rr), (tq, x_N G 32 tt), (vq, x_N G 256 gv)] ++ x_pl G pa ba cap len pb) ((Nat → Nat) × (Nat → Nat)) (fun r _ => r = nI n_) (fun u => [(h0, .inr (5, [.ref gq, .ref kd, .ref vq, .int (nI n_), .ref sq])), (gq, .inr (3, [.ref kq, .ref cq, .ref pq, .int (nI rs), .int ck, .int lt, .ref dq, .ref e0, .ref rq, .ref tq])), (kq, x_N G 16 (g_key key ctr nb)), (cq, x_N G 16 (g_cts ctr (nb + 1))), (pq, x_Q G 32 (fun j => some (pa j))), (dq, .inr (1, [.ref d1, .ref d2, .ref d3])), (d1, x_I G 8 Hf), (d2, x_I G 64 w0), (d3, x_N G 32 go), (e0, .inr (0, [.ref e1, .ref e2, .ref e3])), (e1, x_N G 176 (g_sch key)), (e2, x_N G 16 u.1), (e3, x_N G 16 u.2), (rq, x_N G 1040 rr), (tq, x_N G 32 tt), (vq, x_N G 256 (g_gen (g_sch key) ctr gv nb))] ++ x_pl G pa ba cap len pb) 0 0 := by
  refine xMi.by r_Pd (by decide +kernel) (Nat.le_of_ble_eq_true rfl) rfl ?_
  intro p e s m args below meth c A ls Q E B hro hl hret
  have hl : lv_has ls 2 [(0, .ref h0), (1, .int (nI n_))] := hl
  refine lv_iload_n E.1 E.2.1 d_Pd_request_0 rfl (lv_at hl 1 rfl) ?_
  refine lv_iconst (v := nI 1) E.1 E.2.1 d_Pd_request_1 (by decide) ?_
  refine x_lt (tgt := 12) E d_Pd_request_2 (by decide) (by omega) (by omega) (fun c1 => ?_) (fun c1 => ?_)
  · exfalso; omega
  · refine lv_iload_n E.1 E.2.1 d_Pd_request_5 rfl (lv_at hl 1 rfl) ?_
    refine lv_sipush (v := nI 256) E.1 E.2.1 d_Pd_request_6 (by decide) ?_
    refine x_le (tgt := 14) E d_Pd_request_9 (by decide) (by omega) (by omega) (fun c2 => ?_) (fun c2 => ?_)
    · refine lv_aload_n E.1 E.2.1 d_Pd_request_14 rfl (lv_at hl 0 rfl) ?_
      refine x_get E B 0 rfl k_Pd 0 (by decide) wd_165 rfl d_Pd_request_15 ?_
      refine x_cf (x_rV (rest := []) E B (q_Ge_isDrawingDue G l gq kq cq pq dq e0 rq tq rs ck lt pa ba cap len pb (by have := hcap 0 (by decide); omega) _) (x_preP B [1, 4] rfl (by decide) x_ro0) 1 rfl k_Ge (gg_V wd_231 wd_232 wd_233 wd_35 wd_234) ⟨rfl, p_Ge_isDrawingDue⟩ rfl rfl ⟨Nat.le_of_ble_eq_true rfl, Nat.le_of_ble_eq_true rfl⟩ rfl hl.1 rfl (Nat.le_of_ble_eq_true rfl) d_Pd_request_18 ⟨Nat.le_of_ble_eq_true rfl, Nat.le_of_ble_eq_true rfl⟩) ?_
      refine x_top (show nI (c_du (len 0) ck lt) = nI 0 from congrArg nI (by exact hdu)) ?_
      refine x_if0 (tgt := 31) E d_Pd_request_21 (by decide) (by omega) (fun c3 => ?_) (fun c3 => ?_)
      · refine lv_aload_n E.1 E.2.1 d_Pd_request_31 rfl (lv_at hl 0 rfl) ?_
        refine x_get E B 0 rfl k_Pd 0 (by decide) wd_165 rfl d_Pd_request_32 ?_
        refine x_cf (x_rV (rest := []) E B (q_Ge_isSeeded G l gq kq cq pq dq e0 rq tq rs ck lt ctr (hb) _) (x_pre B [1, 3] rfl (by decide) x_ro0) 1 rfl k_Ge (gg_V wd_285 wd_286 wd_287 wd_35 wd_288) ⟨rfl, p_Ge_isSeeded⟩ rfl rfl ⟨Nat.le_of_ble_eq_true rfl, Nat.le_of_ble_eq_true rfl⟩ rfl hl.1 rfl (Nat.le_of_ble_eq_true rfl) d_Pd_request_35 ⟨Nat.le_of_ble_eq_true rfl, Nat.le_of_ble_eq_true rfl⟩) ?_
        refine x_top (show nI (g_sd ctr) = nI 1 from congrArg nI (by exact hsd)) ?_
        refine x_ifn (tgt := 44) E d_Pd_request_38 (by decide) (by omega) (fun c4 => ?_) (fun c4 => ?_)
        · refine lv_aload_n E.1 E.2.1 d_Pd_request_44 rfl (lv_at hl 0 rfl) ?_
          refine x_get E B 0 rfl k_Pd 0 (by decide) wd_165 rfl d_Pd_request_45 ?_
          refine lv_iload_n E.1 E.2.1 d_Pd_request_48 rfl (lv_at hl 1 rfl) ?_
          refine lv_aload_n E.1 E.2.1 d_Pd_request_49 rfl (lv_at hl 0 rfl) ?_
          refine x_get E B 0 rfl k_Pd 2 (by decide) wd_167 rfl d_Pd_request_50 ?_
          refine x_cvX (X' := fun u => [(h0, .inr (5, [.ref gq, .ref kd, .ref vq, .int (nI gc), .ref sq])), (gq, .inr (3, [.ref kq, .ref cq, .ref pq, .int (nI rs), .int ck, .int lt, .ref dq, .ref e0, .ref rq, .ref tq])), (kq, x_N G 16 (g_key key ctr nb)), (cq, x_N G 16 (g_cts ctr (nb + 1))), (pq, x_Q G 32 (fun j => some (pa j))), (dq, .inr (1, [.ref d1, .ref d2, .ref d3])), (d1, x_I G 8 Hf), (d2, x_I G 64 w0), (d3, x_N G 32 go), (e0, .inr (0, [.ref e1, .ref e2, .ref e3])), (e1, x_N G 176 (g_sch key)), (e2, x_N G 16 u.1), (e3, x_N G 16 u.2), (rq, x_N G 1040 rr), (tq, x_N G 32 tt), (vq, x_N G 256 (g_gen (g_sch key) ctr gv nb))]) 16 B (x_rV (rest := []) E B (q_Ge_generate G l gq kq cq pq dq e0 rq tq rs ck lt e1 e2 e3 k0 s0 v0 n_ vq 256 nb key ctr gv (hk) (hb) (by omega) (by omega) (hnb) _) (x_pre B [1, 2, 3, 9, 10, 11, 12, 15] rfl (by decide) x_ro0) 1 rfl k_Ge (gg_V wd_289 wd_290 wd_291 wd_35 wd_292) ⟨rfl, p_Ge_generate⟩ rfl rfl ⟨Nat.le_of_ble_eq_true rfl, Nat.le_of_ble_eq_true rfl⟩ rfl hl.1 rfl (Nat.le_of_ble_eq_true rfl) d_Pd_request_53 ⟨Nat.le_of_ble_eq_true rfl, Nat.le_of_ble_eq_true rfl⟩) [1, 2, 3, 9, 10, 11, 12, 15] [0, 4, 5, 6, 7, 8, 13, 14] rfl rfl (fun _ => rfl) rfl (by decide) (fun _ => rfl) (fun _ => rfl) (fun _ => rfl) (by decide) (fun u53 H locs hw53 B => ?_)
          have B : xB G A s _ _ ([(h0, .inr (5, [.ref gq, .ref kd, .ref vq, .int (nI gc), .ref sq])), (gq, .inr (3, [.ref kq, .ref cq, .ref pq, .int (nI rs), .int ck, .int lt, .ref dq, .ref e0, .ref rq, .ref tq])), (kq, x_N G 16 (g_key key ctr nb)), (cq, x_N G 16 (g_cts ctr (nb + 1))), (pq, x_Q G 32 (fun j => some (pa j))), (dq, .inr (1, [.ref d1, .ref d2, .ref d3])), (d1, x_I G 8 Hf), (d2, x_I G 64 w0), (d3, x_N G 32 go), (e0, .inr (0, [.ref e1, .ref e2, .ref e3])), (e1, x_N G 176 (g_sch key)), (e2, x_N G 16 u53.1), (e3, x_N G 16 u53.2), (rq, x_N G 1040 rr), (tq, x_N G 32 tt), (vq, x_N G 256 (g_gen (g_sch key) ctr gv nb))] ++ x_pl G pa ba cap len pb) := B
          refine lv_aload_n E.1 E.2.1 d_Pd_request_56 rfl (lv_at hl 0 rfl) ?_
          refine lv_iload_n E.1 E.2.1 d_Pd_request_57 rfl (lv_at hl 1 rfl) ?_
          refine x_put E B 0 rfl k_Pd 3 (by decide) wd_168 rfl rfl rfl (Nat.le_of_ble_eq_true rfl) d_Pd_request_58 (fun H locs B => ?_)
          have B : xB G A s _ _ ([(h0, .inr (5, [.ref gq, .ref kd, .ref vq, .int (nI n_), .ref sq])), (gq, .inr (3, [.ref kq, .ref cq, .ref pq, .int (nI rs), .int ck, .int lt, .ref dq, .ref e0, .ref rq, .ref tq])), (kq, x_N G 16 (g_key key ctr nb)), (cq, x_N G 16 (g_cts ctr (nb + 1))), (pq, x_Q G 32 (fun j => some (pa j))), (dq, .inr (1, [.ref d1, .ref d2, .ref d3])), (d1, x_I G 8 Hf), (d2, x_I G 64 w0), (d3, x_N G 32 go), (e0, .inr (0, [.ref e1, .ref e2, .ref e3])), (e1, x_N G 176 (g_sch key)), (e2, x_N G 16 u53.1), (e3, x_N G 16 u53.2), (rq, x_N G 1040 rr), (tq, x_N G 32 tt), (vq, x_N G 256 (g_gen (g_sch key) ctr gv nb))] ++ x_pl G pa ba cap len pb) := B
          refine lv_iload_n E.1 E.2.1 d_Pd_request_61 rfl (lv_at hl 1 rfl) ?_
          exact hret _ u53 _ _ _ _ B (rfl) d_Pd_request_62
        · exfalso; omega
      · exfalso; omega
    · exfalso; omega
set_option maxHeartbeats 4000000 in
set_option maxRecDepth 100000 in
theorem q_Pd_request_10 (G : xG) (l : Launch) (h0 gq kd vq sq gc : Nat) (kq cq pq dq e0 rq tq rs : Nat) (ck lt : Int32) (d1 d2 d3 : Nat) (Hf w0 : Nat → Int32) (go : Nat → Nat) (e1 e2 e3 : Nat) (k0 s0 v0 : Nat → Nat) (n_ nb : Nat) (key ctr rr tt gv : Nat → Nat) (pa ba cap len : Nat → Nat) (pb : Nat → Nat → Nat) (hn1 : 1 ≤ n_) (hn2 : n_ ≤ 256) (hnb : nb = (n_ + 15) / 16) (hk : g_bt 16 key) (hb : g_bt 16 ctr) (hrs : rs < 100000) (hcap : ∀ j, j < 32 → cap j < 100000 ∧ len j ≤ cap j) (hpb : ∀ j, j < 32 → ∀ k, k < len j → pb j k < 256) (hdu : c_du (len 0) ck lt = 1) (hsd : g_sd (g_ct ctr) = 0) : xMi G l y_Pd_request c_Pd_request 2 .int ({ frames := 6, cells := 0, slots := 0, locals := 151 }) [.ref h0, .int (nI n_)] [] ([(h0, .inr (5, [.ref gq, .ref kd, .ref vq, .int (nI gc), .ref sq])), (gq, .inr (3, [.ref kq, .ref cq, .ref pq, .int (nI rs), .int ck, .int lt, .ref dq, .ref e0, .ref rq, .ref tq])), (kq, x_N G 16 key), (cq, x_N G 16 ctr), (pq, x_Q G 32 (fun j => some (pa j))), (dq, .inr (1, [.ref d1, .ref d2, .ref d3])), (d1, x_I G 8 Hf), (d2, x_I G 64 w0), (d3, x_N G 32 go), (e0, .inr (0, [.ref e1, .ref e2, .ref e3])), (e1, x_N G 176 k0), (e2, x_N G 16 s0), (e3, x_N G 16 v0), (rq, x_N G 1040 rr), (tq, x_N G 32 tt), (vq, x_N G 256 gv)] ++ x_pl G pa ba cap len pb) ((Nat → Int32) × (Nat → Int32)) (fun r _ => r = (-2)) (fun u => [(h0, .inr (5, [.ref gq, .ref kd, .ref vq, .int (nI gc), .ref sq])), (gq, .inr (3, [.ref kq, .ref cq, .ref pq, .int (nI (rs + 1)), .int ck, .int ck, .ref dq, .ref e0, .ref rq, .ref tq])), (kq, x_N G 16 (h_tw (va_cpy key (r_row pb len rr (r_n (rs + 1))) 0 0 16) (16 + 32 * (r_n (rs + 1))))), (cq, x_N G 16 (g_ct ctr)), (pq, x_Q G 32 (fun j => some (pa j))), (dq, .inr (1, [.ref d1, .ref d2, .ref d3])), (d1, x_I G 8 u.1), (d2, x_I G 64 u.2), (d3, x_N G 32 (h_dg (va_cpy key (r_row pb len rr (r_n (rs + 1))) 0 0 16) (16 + 32 * (r_n (rs + 1))))), (e0, .inr (0, [.ref e1, .ref e2, .ref e3])), (e1, x_N G 176 k0), (e2, x_N G 16 s0), (e3, x_N G 16 v0), (rq, x_N G 1040 (va_cpy key (r_row pb len rr (r_n (rs + 1))) 0 0 16)), (tq, x_N G 32 (h_tw (va_cpy key (r_row pb len rr (r_n (rs + 1))) 0 0 16) (16 + 32 * (r_n (rs + 1))))), (vq, x_N G 256 gv)] ++ x_pl G pa ba cap (mx (r_n (rs + 1)) (fun _ => 0) len) pb) 0 0 := by
  refine xMi.by r_Pd (by decide +kernel) (Nat.le_of_ble_eq_true rfl) rfl ?_
  intro p e s m args below meth c A ls Q E B hro hl hret
  have hl : lv_has ls 2 [(0, .ref h0), (1, .int (nI n_))] := hl
  refine lv_iload_n E.1 E.2.1 d_Pd_request_0 rfl (lv_at hl 1 rfl) ?_
  refine lv_iconst (v := nI 1) E.1 E.2.1 d_Pd_request_1 (by decide) ?_
  refine x_lt (tgt := 12) E d_Pd_request_2 (by decide) (by omega) (by omega) (fun c1 => ?_) (fun c1 => ?_)
  · exfalso; omega
  · refine lv_iload_n E.1 E.2.1 d_Pd_request_5 rfl (lv_at hl 1 rfl) ?_
    refine lv_sipush (v := nI 256) E.1 E.2.1 d_Pd_request_6 (by decide) ?_
    refine x_le (tgt := 14) E d_Pd_request_9 (by decide) (by omega) (by omega) (fun c2 => ?_) (fun c2 => ?_)
    · refine lv_aload_n E.1 E.2.1 d_Pd_request_14 rfl (lv_at hl 0 rfl) ?_
      refine x_get E B 0 rfl k_Pd 0 (by decide) wd_165 rfl d_Pd_request_15 ?_
      refine x_cf (x_rV (rest := []) E B (q_Ge_isDrawingDue G l gq kq cq pq dq e0 rq tq rs ck lt pa ba cap len pb (by have := hcap 0 (by decide); omega) _) (x_preP B [1, 4] rfl (by decide) x_ro0) 1 rfl k_Ge (gg_V wd_231 wd_232 wd_233 wd_35 wd_234) ⟨rfl, p_Ge_isDrawingDue⟩ rfl rfl ⟨Nat.le_of_ble_eq_true rfl, Nat.le_of_ble_eq_true rfl⟩ rfl hl.1 rfl (Nat.le_of_ble_eq_true rfl) d_Pd_request_18 ⟨Nat.le_of_ble_eq_true rfl, Nat.le_of_ble_eq_true rfl⟩) ?_
      refine x_top (show nI (c_du (len 0) ck lt) = nI 1 from congrArg nI (by exact hdu)) ?_
      refine x_if0 (tgt := 31) E d_Pd_request_21 (by decide) (by omega) (fun c3 => ?_) (fun c3 => ?_)
      · exfalso; omega
      · refine lv_aload_n E.1 E.2.1 d_Pd_request_24 rfl (lv_at hl 0 rfl) ?_
        refine x_get E B 0 rfl k_Pd 0 (by decide) wd_165 rfl d_Pd_request_25 ?_
        refine x_cvP (X' := fun u => [(h0, .inr (5, [.ref gq, .ref kd, .ref vq, .int (nI gc), .ref sq])), (gq, .inr (3, [.ref kq, .ref cq, .ref pq, .int (nI (rs + 1)), .int ck, .int ck, .ref dq, .ref e0, .ref rq, .ref tq])), (kq, x_N G 16 (h_tw (va_cpy key (r_row pb len rr (r_n (rs + 1))) 0 0 16) (16 + 32 * (r_n (rs + 1))))), (cq, x_N G 16 (g_ct ctr)), (pq, x_Q G 32 (fun j => some (pa j))), (dq, .inr (1, [.ref d1, .ref d2, .ref d3])), (d1, x_I G 8 u.1), (d2, x_I G 64 u.2), (d3, x_N G 32 (h_dg (va_cpy key (r_row pb len rr (r_n (rs + 1))) 0 0 16) (16 + 32 * (r_n (rs + 1))))), (e0, .inr (0, [.ref e1, .ref e2, .ref e3])), (e1, x_N G 176 k0), (e2, x_N G 16 s0), (e3, x_N G 16 v0), (rq, x_N G 1040 (va_cpy key (r_row pb len rr (r_n (rs + 1))) 0 0 16)), (tq, x_N G 32 (h_tw (va_cpy key (r_row pb len rr (r_n (rs + 1))) 0 0 16) (16 + 32 * (r_n (rs + 1))))), (vq, x_N G 256 gv)]) (pl1 := fun u => x_pl G pa ba cap (mx (r_n (rs + 1)) (fun _ => 0) len) pb) (wr := [(h0, .inr (5, [.ref gq, .ref kd, .ref vq, .int (nI gc), .ref sq])), (e0, .inr (0, [.ref e1, .ref e2, .ref e3])), (e1, x_N G 176 k0), (e2, x_N G 16 s0), (e3, x_N G 16 v0), (vq, x_N G 256 gv)]) B (x_rV (rest := []) E B (q_Ge_draw G l gq kq cq pq dq e0 rq tq rs ck lt d1 d2 d3 Hf w0 go key ctr rr tt pa ba cap len pb (hrs) (hk) (hb) (hcap) (hpb) _) (x_preP B [1, 2, 3, 4, 5, 6, 7, 8, 13, 14] rfl (by decide) x_ro0) 1 rfl k_Ge (gg_V wd_235 wd_236 wd_237 wd_35 wd_238) ⟨rfl, p_Ge_draw⟩ rfl rfl ⟨Nat.le_of_ble_eq_true rfl, Nat.le_of_ble_eq_true rfl⟩ rfl hl.1 rfl (Nat.le_of_ble_eq_true rfl) d_Pd_request_28 ⟨Nat.le_of_ble_eq_true rfl, Nat.le_of_ble_eq_true rfl⟩) [1, 2, 3, 4, 5, 6, 7, 8, 13, 14] [0, 9, 10, 11, 12, 15] [0, 6, 7, 8, 9, 10, 11, 12, 13, 1, 2, 3, 4, 14, 15, 5] rfl rfl (by decide) (by decide) (by decide) (fun _ => rfl) (fun u28 H locs hw28 B => ?_)
        have B : xB G A s _ _ ([(h0, .inr (5, [.ref gq, .ref kd, .ref vq, .int (nI gc), .ref sq])), (gq, .inr (3, [.ref kq, .ref cq, .ref pq, .int (nI (rs + 1)), .int ck, .int ck, .ref dq, .ref e0, .ref rq, .ref tq])), (kq, x_N G 16 (h_tw (va_cpy key (r_row pb len rr (r_n (rs + 1))) 0 0 16) (16 + 32 * (r_n (rs + 1))))), (cq, x_N G 16 (g_ct ctr)), (pq, x_Q G 32 (fun j => some (pa j))), (dq, .inr (1, [.ref d1, .ref d2, .ref d3])), (d1, x_I G 8 u28.1), (d2, x_I G 64 u28.2), (d3, x_N G 32 (h_dg (va_cpy key (r_row pb len rr (r_n (rs + 1))) 0 0 16) (16 + 32 * (r_n (rs + 1))))), (e0, .inr (0, [.ref e1, .ref e2, .ref e3])), (e1, x_N G 176 k0), (e2, x_N G 16 s0), (e3, x_N G 16 v0), (rq, x_N G 1040 (va_cpy key (r_row pb len rr (r_n (rs + 1))) 0 0 16)), (tq, x_N G 32 (h_tw (va_cpy key (r_row pb len rr (r_n (rs + 1))) 0 0 16) (16 + 32 * (r_n (rs + 1))))), (vq, x_N G 256 gv)] ++ x_pl G pa ba cap (mx (r_n (rs + 1)) (fun _ => 0) len) pb) := B
        refine lv_aload_n E.1 E.2.1 d_Pd_request_31 rfl (lv_at hl 0 rfl) ?_
        refine x_get E B 0 rfl k_Pd 0 (by decide) wd_165 rfl d_Pd_request_32 ?_
        refine x_cf (x_rV (rest := []) E B (q_Ge_isSeeded G l gq kq cq pq dq e0 rq tq (rs + 1) ck ck (g_ct ctr) (g_ct_bt hb) _) (x_pre B [1, 3] rfl (by decide) x_ro0) 1 rfl k_Ge (gg_V wd_285 wd_286 wd_287 wd_35 wd_288) ⟨rfl, p_Ge_isSeeded⟩ rfl rfl ⟨Nat.le_of_ble_eq_true rfl, Nat.le_of_ble_eq_true rfl⟩ rfl hl.1 rfl (Nat.le_of_ble_eq_true rfl) d_Pd_request_35 ⟨Nat.le_of_ble_eq_true rfl, Nat.le_of_ble_eq_true rfl⟩) ?_
        refine x_top (show nI (g_sd (g_ct ctr)) = nI 0 from congrArg nI (by exact hsd)) ?_
        refine x_ifn (tgt := 44) E d_Pd_request_38 (by decide) (by omega) (fun c4 => ?_) (fun c4 => ?_)
        · exfalso; omega
        · refine lv_bipush (v := -2) E.1 E.2.1 d_Pd_request_41 (by decide) ?_
          exact hret _ u28 _ _ _ _ B (rfl) d_Pd_request_43
    · exfalso; omega
set_option maxHeartbeats 4000000 in
set_option maxRecDepth 100000 in
theorem q_Pd_request_11 (G : xG) (l : Launch) (h0 gq kd vq sq gc : Nat) (kq cq pq dq e0 rq tq rs : Nat) (ck lt : Int32) (d1 d2 d3 : Nat) (Hf w0 : Nat → Int32) (go : Nat → Nat) (e1 e2 e3 : Nat) (k0 s0 v0 : Nat → Nat) (n_ nb : Nat) (key ctr rr tt gv : Nat → Nat) (pa ba cap len : Nat → Nat) (pb : Nat → Nat → Nat) (hn1 : 1 ≤ n_) (hn2 : n_ ≤ 256) (hnb : nb = (n_ + 15) / 16) (hk : g_bt 16 key) (hb : g_bt 16 ctr) (hrs : rs < 100000) (hcap : ∀ j, j < 32 → cap j < 100000 ∧ len j ≤ cap j) (hpb : ∀ j, j < 32 → ∀ k, k < len j → pb j k < 256) (hdu : c_du (len 0) ck lt = 1) (hsd : g_sd (g_ct ctr) = 1) : xMi G l y_Pd_request c_Pd_request 2 .int ({ frames := 6, cells := 0, slots := 0, locals := 151 }) [.ref h0, .int (nI n_)] [] ([(h0, .inr (5, [.ref gq, .ref kd, .ref vq, .int (nI gc), .ref sq])), (gq, .inr (3, [.ref kq, .ref cq, .ref pq, .int (nI rs), .int ck, .int lt, .ref dq, .ref e0, .ref rq, .ref tq])), (kq, x_N G 16 key), (cq, x_N G 16 ctr), (pq, x_Q G 32 (fun j => some (pa j))), (dq, .inr (1, [.ref d1, .ref d2, .ref d3])), (d1, x_I G 8 Hf), (d2, x_I G 64 w0), (d3, x_N G 32 go), (e0, .inr (0, [.ref e1, .ref e2, .ref e3])), (e1, x_N G 176 k0), (e2, x_N G 16 s0), (e3, x_N G 16 v0), (rq, x_N G 1040 rr), (tq, x_N G 32 tt), (vq, x_N G 256 gv)] ++ x_pl G pa ba cap len pb) ((Nat → Int32) × (Nat → Int32) × (Nat → Nat) × (Nat → Nat)) (fun r _ => r = nI n_) (fun u => [(h0, .inr (5, [.ref gq, .ref kd, .ref vq, .int (nI n_), .ref sq])), (gq, .inr (3, [.ref kq, .ref cq, .ref pq, .int (nI (rs + 1)), .int ck, .int ck, .ref dq, .ref e0, .ref rq, .ref tq])), (kq, x_N G 16 (g_key (h_tw (va_cpy key (r_row pb len rr (r_n (rs + 1))) 0 0 16) (16 + 32 * (r_n (rs + 1)))) (g_ct ctr) nb)), (cq, x_N G 16 (g_cts (g_ct ctr) (nb + 1))), (pq, x_Q G 32 (fun j => some (pa j))), (dq, .inr (1, [.ref d1, .ref d2, .ref d3])), (d1, x_I G 8 u.1), (d2, x_I G 64 u.2.1), (d3, x_N G 32 (h_dg (va_cpy key (r_row pb len rr (r_n (rs + 1))) 0 0 16) (16 + 32 * (r_n (rs + 1))))), (e0, .inr (0, [.ref e1, .ref e2, .ref e3])), (e1, x_N G 176 (g_sch (h_tw (va_cpy key (r_row pb len rr (r_n (rs + 1))) 0 0 16) (16 + 32 * (r_n (rs + 1)))))), (e2, x_N G 16 u.2.2.1), (e3, x_N G 16 u.2.2.2), (rq, x_N G 1040 (va_cpy key (r_row pb len rr (r_n (rs + 1))) 0 0 16)), (tq, x_N G 32 (h_tw (va_cpy key (r_row pb len rr (r_n (rs + 1))) 0 0 16) (16 + 32 * (r_n (rs + 1))))), (vq, x_N G 256 (g_gen (g_sch (h_tw (va_cpy key (r_row pb len rr (r_n (rs + 1))) 0 0 16) (16 + 32 * (r_n (rs + 1))))) (g_ct ctr) gv nb))] ++ x_pl G pa ba cap (mx (r_n (rs + 1)) (fun _ => 0) len) pb) 0 0 := by
  refine xMi.by r_Pd (by decide +kernel) (Nat.le_of_ble_eq_true rfl) rfl ?_
  intro p e s m args below meth c A ls Q E B hro hl hret
  have hl : lv_has ls 2 [(0, .ref h0), (1, .int (nI n_))] := hl
  refine lv_iload_n E.1 E.2.1 d_Pd_request_0 rfl (lv_at hl 1 rfl) ?_
  refine lv_iconst (v := nI 1) E.1 E.2.1 d_Pd_request_1 (by decide) ?_
  refine x_lt (tgt := 12) E d_Pd_request_2 (by decide) (by omega) (by omega) (fun c1 => ?_) (fun c1 => ?_)
  · exfalso; omega
  · refine lv_iload_n E.1 E.2.1 d_Pd_request_5 rfl (lv_at hl 1 rfl) ?_
    refine lv_sipush (v := nI 256) E.1 E.2.1 d_Pd_request_6 (by decide) ?_
    refine x_le (tgt := 14) E d_Pd_request_9 (by decide) (by omega) (by omega) (fun c2 => ?_) (fun c2 => ?_)
    · refine lv_aload_n E.1 E.2.1 d_Pd_request_14 rfl (lv_at hl 0 rfl) ?_
      refine x_get E B 0 rfl k_Pd 0 (by decide) wd_165 rfl d_Pd_request_15 ?_
      refine x_cf (x_rV (rest := []) E B (q_Ge_isDrawingDue G l gq kq cq pq dq e0 rq tq rs ck lt pa ba cap len pb (by have := hcap 0 (by decide); omega) _) (x_preP B [1, 4] rfl (by decide) x_ro0) 1 rfl k_Ge (gg_V wd_231 wd_232 wd_233 wd_35 wd_234) ⟨rfl, p_Ge_isDrawingDue⟩ rfl rfl ⟨Nat.le_of_ble_eq_true rfl, Nat.le_of_ble_eq_true rfl⟩ rfl hl.1 rfl (Nat.le_of_ble_eq_true rfl) d_Pd_request_18 ⟨Nat.le_of_ble_eq_true rfl, Nat.le_of_ble_eq_true rfl⟩) ?_
      refine x_top (show nI (c_du (len 0) ck lt) = nI 1 from congrArg nI (by exact hdu)) ?_
      refine x_if0 (tgt := 31) E d_Pd_request_21 (by decide) (by omega) (fun c3 => ?_) (fun c3 => ?_)
      · exfalso; omega
      · refine lv_aload_n E.1 E.2.1 d_Pd_request_24 rfl (lv_at hl 0 rfl) ?_
        refine x_get E B 0 rfl k_Pd 0 (by decide) wd_165 rfl d_Pd_request_25 ?_
        refine x_cvP (X' := fun u => [(h0, .inr (5, [.ref gq, .ref kd, .ref vq, .int (nI gc), .ref sq])), (gq, .inr (3, [.ref kq, .ref cq, .ref pq, .int (nI (rs + 1)), .int ck, .int ck, .ref dq, .ref e0, .ref rq, .ref tq])), (kq, x_N G 16 (h_tw (va_cpy key (r_row pb len rr (r_n (rs + 1))) 0 0 16) (16 + 32 * (r_n (rs + 1))))), (cq, x_N G 16 (g_ct ctr)), (pq, x_Q G 32 (fun j => some (pa j))), (dq, .inr (1, [.ref d1, .ref d2, .ref d3])), (d1, x_I G 8 u.1), (d2, x_I G 64 u.2), (d3, x_N G 32 (h_dg (va_cpy key (r_row pb len rr (r_n (rs + 1))) 0 0 16) (16 + 32 * (r_n (rs + 1))))), (e0, .inr (0, [.ref e1, .ref e2, .ref e3])), (e1, x_N G 176 k0), (e2, x_N G 16 s0), (e3, x_N G 16 v0), (rq, x_N G 1040 (va_cpy key (r_row pb len rr (r_n (rs + 1))) 0 0 16)), (tq, x_N G 32 (h_tw (va_cpy key (r_row pb len rr (r_n (rs + 1))) 0 0 16) (16 + 32 * (r_n (rs + 1))))), (vq, x_N G 256 gv)]) (pl1 := fun u => x_pl G pa ba cap (mx (r_n (rs + 1)) (fun _ => 0) len) pb) (wr := [(h0, .inr (5, [.ref gq, .ref kd, .ref vq, .int (nI gc), .ref sq])), (e0, .inr (0, [.ref e1, .ref e2, .ref e3])), (e1, x_N G 176 k0), (e2, x_N G 16 s0), (e3, x_N G 16 v0), (vq, x_N G 256 gv)]) B (x_rV (rest := []) E B (q_Ge_draw G l gq kq cq pq dq e0 rq tq rs ck lt d1 d2 d3 Hf w0 go key ctr rr tt pa ba cap len pb (hrs) (hk) (hb) (hcap) (hpb) _) (x_preP B [1, 2, 3, 4, 5, 6, 7, 8, 13, 14] rfl (by decide) x_ro0) 1 rfl k_Ge (gg_V wd_235 wd_236 wd_237 wd_35 wd_238) ⟨rfl, p_Ge_draw⟩ rfl rfl ⟨Nat.le_of_ble_eq_true rfl, Nat.le_of_ble_eq_true rfl⟩ rfl hl.1 rfl (Nat.le_of_ble_eq_true rfl) d_Pd_request_28 ⟨Nat.le_of_ble_eq_true rfl, Nat.le_of_ble_eq_true rfl⟩) [1, 2, 3, 4, 5, 6, 7, 8, 13, 14] [0, 9, 10, 11, 12, 15] [0, 6, 7, 8, 9, 10, 11, 12, 13, 1, 2, 3, 4, 14, 15, 5] rfl rfl (by decide) (by decide) (by decide) (fun _ => rfl) (fun u28 H locs hw28 B => ?_)
        have B : xB G A s _ _ ([(h0, .inr (5, [.ref gq, .ref kd, .ref vq, .int (nI gc), .ref sq])), (gq, .inr (3, [.ref kq, .ref cq, .ref pq, .int (nI (rs + 1)), .int ck, .int ck, .ref dq, .ref e0, .ref rq, .ref tq])), (kq, x_N G 16 (h_tw (va_cpy key (r_row pb len rr (r_n (rs + 1))) 0 0 16) (16 + 32 * (r_n (rs + 1))))), (cq, x_N G 16 (g_ct ctr)), (pq, x_Q G 32 (fun j => some (pa j))), (dq, .inr (1, [.ref d1, .ref d2, .ref d3])), (d1, x_I G 8 u28.1), (d2, x_I G 64 u28.2), (d3, x_N G 32 (h_dg (va_cpy key (r_row pb len rr (r_n (rs + 1))) 0 0 16) (16 + 32 * (r_n (rs + 1))))), (e0, .inr (0, [.ref e1, .ref e2, .ref e3])), (e1, x_N G 176 k0), (e2, x_N G 16 s0), (e3, x_N G 16 v0), (rq, x_N G 1040 (va_cpy key (r_row pb len rr (r_n (rs + 1))) 0 0 16)), (tq, x_N G 32 (h_tw (va_cpy key (r_row pb len rr (r_n (rs + 1))) 0 0 16) (16 + 32 * (r_n (rs + 1))))), (vq, x_N G 256 gv)] ++ x_pl G pa ba cap (mx (r_n (rs + 1)) (fun _ => 0) len) pb) := B
        refine lv_aload_n E.1 E.2.1 d_Pd_request_31 rfl (lv_at hl 0 rfl) ?_
        refine x_get E B 0 rfl k_Pd 0 (by decide) wd_165 rfl d_Pd_request_32 ?_
        refine x_cf (x_rV (rest := []) E B (q_Ge_isSeeded G l gq kq cq pq dq e0 rq tq (rs + 1) ck ck (g_ct ctr) (g_ct_bt hb) _) (x_pre B [1, 3] rfl (by decide) x_ro0) 1 rfl k_Ge (gg_V wd_285 wd_286 wd_287 wd_35 wd_288) ⟨rfl, p_Ge_isSeeded⟩ rfl rfl ⟨Nat.le_of_ble_eq_true rfl, Nat.le_of_ble_eq_true rfl⟩ rfl hl.1 rfl (Nat.le_of_ble_eq_true rfl) d_Pd_request_35 ⟨Nat.le_of_ble_eq_true rfl, Nat.le_of_ble_eq_true rfl⟩) ?_
        refine x_top (show nI (g_sd (g_ct ctr)) = nI 1 from congrArg nI (by exact hsd)) ?_
        refine x_ifn (tgt := 44) E d_Pd_request_38 (by decide) (by omega) (fun c4 => ?_) (fun c4 => ?_)
        · refine lv_aload_n E.1 E.2.1 d_Pd_request_44 rfl (lv_at hl 0 rfl) ?_
          refine x_get E B 0 rfl k_Pd 0 (by decide) wd_165 rfl d_Pd_request_45 ?_
          refine lv_iload_n E.1 E.2.1 d_Pd_request_48 rfl (lv_at hl 1 rfl) ?_
          refine lv_aload_n E.1 E.2.1 d_Pd_request_49 rfl (lv_at hl 0 rfl) ?_
          refine x_get E B 0 rfl k_Pd 2 (by decide) wd_167 rfl d_Pd_request_50 ?_
          refine x_cvX (X' := fun u => [(h0, .inr (5, [.ref gq, .ref kd, .ref vq, .int (nI gc), .ref sq])), (gq, .inr (3, [.ref kq, .ref cq, .ref pq, .int (nI (rs + 1)), .int ck, .int ck, .ref dq, .ref e0, .ref rq, .ref tq])), (kq, x_N G 16 (g_key (h_tw (va_cpy key (r_row pb len rr (r_n (rs + 1))) 0 0 16) (16 + 32 * (r_n (rs + 1)))) (g_ct ctr) nb)), (cq, x_N G 16 (g_cts (g_ct ctr) (nb + 1))), (pq, x_Q G 32 (fun j => some (pa j))), (dq, .inr (1, [.ref d1, .ref d2, .ref d3])), (d1, x_I G 8 u28.1), (d2, x_I G 64 u28.2), (d3, x_N G 32 (h_dg (va_cpy key (r_row pb len rr (r_n (rs + 1))) 0 0 16) (16 + 32 * (r_n (rs + 1))))), (e0, .inr (0, [.ref e1, .ref e2, .ref e3])), (e1, x_N G 176 (g_sch (h_tw (va_cpy key (r_row pb len rr (r_n (rs + 1))) 0 0 16) (16 + 32 * (r_n (rs + 1)))))), (e2, x_N G 16 u.1), (e3, x_N G 16 u.2), (rq, x_N G 1040 (va_cpy key (r_row pb len rr (r_n (rs + 1))) 0 0 16)), (tq, x_N G 32 (h_tw (va_cpy key (r_row pb len rr (r_n (rs + 1))) 0 0 16) (16 + 32 * (r_n (rs + 1))))), (vq, x_N G 256 (g_gen (g_sch (h_tw (va_cpy key (r_row pb len rr (r_n (rs + 1))) 0 0 16) (16 + 32 * (r_n (rs + 1))))) (g_ct ctr) gv nb))]) 16 B (x_rV (rest := []) E B (q_Ge_generate G l gq kq cq pq dq e0 rq tq (rs + 1) ck ck e1 e2 e3 k0 s0 v0 n_ vq 256 nb (h_tw (va_cpy key (r_row pb len rr (r_n (rs + 1))) 0 0 16) (16 + 32 * (r_n (rs + 1)))) (g_ct ctr) gv ((fun j _ => h_tw_lt _ _ j)) (g_ct_bt hb) (by omega) (by omega) (hnb) _) (x_pre B [1, 2, 3, 9, 10, 11, 12, 15] rfl (by decide) x_ro0) 1 rfl k_Ge (gg_V wd_289 wd_290 wd_291 wd_35 wd_292) ⟨rfl, p_Ge_generate⟩ rfl rfl ⟨Nat.le_of_ble_eq_true rfl, Nat.le_of_ble_eq_true rfl⟩ rfl hl.1 rfl (Nat.le_of_ble_eq_true rfl) d_Pd_request_53 ⟨Nat.le_of_ble_eq_true rfl, Nat.le_of_ble_eq_true rfl⟩) [1, 2, 3, 9, 10, 11, 12, 15] [0, 4, 5, 6, 7, 8, 13, 14] rfl rfl (fun _ => rfl) rfl (by decide) (fun _ => rfl) (fun _ => rfl) (fun _ => rfl) (by decide) (fun u53 H locs hw53 B => ?_)
          have B : xB G A s _ _ ([(h0, .inr (5, [.ref gq, .ref kd, .ref vq, .int (nI gc), .ref sq])), (gq, .inr (3, [.ref kq, .ref cq, .ref pq, .int (nI (rs + 1)), .int ck, .int ck, .ref dq, .ref e0, .ref rq, .ref tq])), (kq, x_N G 16 (g_key (h_tw (va_cpy key (r_row pb len rr (r_n (rs + 1))) 0 0 16) (16 + 32 * (r_n (rs + 1)))) (g_ct ctr) nb)), (cq, x_N G 16 (g_cts (g_ct ctr) (nb + 1))), (pq, x_Q G 32 (fun j => some (pa j))), (dq, .inr (1, [.ref d1, .ref d2, .ref d3])), (d1, x_I G 8 u28.1), (d2, x_I G 64 u28.2), (d3, x_N G 32 (h_dg (va_cpy key (r_row pb len rr (r_n (rs + 1))) 0 0 16) (16 + 32 * (r_n (rs + 1))))), (e0, .inr (0, [.ref e1, .ref e2, .ref e3])), (e1, x_N G 176 (g_sch (h_tw (va_cpy key (r_row pb len rr (r_n (rs + 1))) 0 0 16) (16 + 32 * (r_n (rs + 1)))))), (e2, x_N G 16 u53.1), (e3, x_N G 16 u53.2), (rq, x_N G 1040 (va_cpy key (r_row pb len rr (r_n (rs + 1))) 0 0 16)), (tq, x_N G 32 (h_tw (va_cpy key (r_row pb len rr (r_n (rs + 1))) 0 0 16) (16 + 32 * (r_n (rs + 1))))), (vq, x_N G 256 (g_gen (g_sch (h_tw (va_cpy key (r_row pb len rr (r_n (rs + 1))) 0 0 16) (16 + 32 * (r_n (rs + 1))))) (g_ct ctr) gv nb))] ++ x_pl G pa ba cap (mx (r_n (rs + 1)) (fun _ => 0) len) pb) := B
          refine lv_aload_n E.1 E.2.1 d_Pd_request_56 rfl (lv_at hl 0 rfl) ?_
          refine lv_iload_n E.1 E.2.1 d_Pd_request_57 rfl (lv_at hl 1 rfl) ?_
          refine x_put E B 0 rfl k_Pd 3 (by decide) wd_168 rfl rfl rfl (Nat.le_of_ble_eq_true rfl) d_Pd_request_58 (fun H locs B => ?_)
          have B : xB G A s _ _ ([(h0, .inr (5, [.ref gq, .ref kd, .ref vq, .int (nI n_), .ref sq])), (gq, .inr (3, [.ref kq, .ref cq, .ref pq, .int (nI (rs + 1)), .int ck, .int ck, .ref dq, .ref e0, .ref rq, .ref tq])), (kq, x_N G 16 (g_key (h_tw (va_cpy key (r_row pb len rr (r_n (rs + 1))) 0 0 16) (16 + 32 * (r_n (rs + 1)))) (g_ct ctr) nb)), (cq, x_N G 16 (g_cts (g_ct ctr) (nb + 1))), (pq, x_Q G 32 (fun j => some (pa j))), (dq, .inr (1, [.ref d1, .ref d2, .ref d3])), (d1, x_I G 8 u28.1), (d2, x_I G 64 u28.2), (d3, x_N G 32 (h_dg (va_cpy key (r_row pb len rr (r_n (rs + 1))) 0 0 16) (16 + 32 * (r_n (rs + 1))))), (e0, .inr (0, [.ref e1, .ref e2, .ref e3])), (e1, x_N G 176 (g_sch (h_tw (va_cpy key (r_row pb len rr (r_n (rs + 1))) 0 0 16) (16 + 32 * (r_n (rs + 1)))))), (e2, x_N G 16 u53.1), (e3, x_N G 16 u53.2), (rq, x_N G 1040 (va_cpy key (r_row pb len rr (r_n (rs + 1))) 0 0 16)), (tq, x_N G 32 (h_tw (va_cpy key (r_row pb len rr (r_n (rs + 1))) 0 0 16) (16 + 32 * (r_n (rs + 1))))), (vq, x_N G 256 (g_gen (g_sch (h_tw (va_cpy key (r_row pb len rr (r_n (rs + 1))) 0 0 16) (16 + 32 * (r_n (rs + 1))))) (g_ct ctr) gv nb))] ++ x_pl G pa ba cap (mx (r_n (rs + 1)) (fun _ => 0) len) pb) := B
          refine lv_iload_n E.1 E.2.1 d_Pd_request_61 rfl (lv_at hl 1 rfl) ?_
          exact hret _ (u28.1, u28.2, u53.1, u53.2) _ _ _ _ B (rfl) d_Pd_request_62
        · exfalso; omega
    · exfalso; omega
set_option maxHeartbeats 4000000 in
set_option maxRecDepth 100000 in
theorem q_Pd_out (G : xG) (l : Launch) (h0 gq kd vq sq gc : Nat) (x : Int32) (gv : Nat → Nat) (hg : gc ≤ 256) : xMr G l y_Pd_out c_Pd_out 2 .int ({ frames := 1, cells := 0, slots := 0, locals := 22 }) [.ref h0, .int x] [] [(h0, .inr (5, [.ref gq, .ref kd, .ref vq, .int (nI gc), .ref sq])), (vq, x_N G 256 gv)] (c_at gv gc x) := by
  refine xMr.by r_Pd (by decide +kernel) (Nat.le_of_ble_eq_true rfl) rfl ?_
  intro p e s m args below meth c A ls Q E B hro hl hret
  have hl : lv_has ls 2 [(0, .ref h0), (1, .int x)] := hl
  refine lv_aload_n E.1 E.2.1 d_Pd_out_0 rfl (lv_at hl 0 rfl) ?_
  refine x_get E B 0 rfl k_Pd 2 (by decide) wd_167 rfl d_Pd_out_1 ?_
  refine lv_iload_n E.1 E.2.1 d_Pd_out_4 rfl (lv_at hl 1 rfl) ?_
  refine lv_aload_n E.1 E.2.1 d_Pd_out_5 rfl (lv_at hl 0 rfl) ?_
  refine x_get E B 0 rfl k_Pd 3 (by decide) wd_168 rfl d_Pd_out_6 ?_
  refine x_cf (x_rS (rest := []) E (q_Pd_byteAt G l vq 256 gc x gv (by omega) (by omega) _) (x_pre B [] rfl (by decide) (x_ro1 (x_ro_w B 1 rfl [] rfl (by decide)))) (gg_S wd_327 wd_328 wd_34 wd_329) p_Pd_byteAt rfl rfl ⟨Nat.le_of_ble_eq_true rfl, Nat.le_of_ble_eq_true rfl⟩ rfl hl.1 rfl (Nat.le_of_ble_eq_true rfl) d_Pd_out_9 ⟨Nat.le_of_ble_eq_true rfl, Nat.le_of_ble_eq_true rfl⟩) ?_
  exact hret _ _ _ (rfl) d_Pd_out_12
set_option maxHeartbeats 4000000 in
set_option maxRecDepth 100000 in
theorem q_Pd_saveNewSeed_y (G : xG) (l : Launch) (h0 gq kd vq sq gc : Nat) (kq cq pq dq e0 rq tq rs : Nat) (ck lt : Int32) (e1 e2 e3 : Nat) (k0 s0 v0 : Nat → Nat) (bq : Nat) (wr tc : Int32) (nb : Nat) (key ctr dk nsd : Nat → Nat) (pa ba cap len : Nat → Nat) (pb : Nat → Nat → Nat) (hnb : nb = 4) (hk : g_bt 16 key) (hb : g_bt 16 ctr) (hd : g_bt 129 dk) (hok : d_n tc = 65) : xMi G l y_Pd_saveNewSeed c_Pd_saveNewSeed 1 .int ({ frames := 4, cells := 0, slots := 0, locals := 128 }) [.ref h0] [] ([(h0, .inr (5, [.ref gq, .ref kd, .ref vq, .int (nI gc), .ref sq])), (gq, .inr (3, [.ref kq, .ref cq, .ref pq, .int (nI rs), .int ck, .int lt, .ref dq, .ref e0, .ref rq, .ref tq])), (kq, x_N G 16 key), (cq, x_N G 16 ctr), (pq, x_Q G 32 (fun j => some (pa j))), (e0, .inr (0, [.ref e1, .ref e2, .ref e3])), (e1, x_N G 176 k0), (e2, x_N G 16 s0), (e3, x_N G 16 v0), (kd, .inr (2, [.ref bq, .int wr, .int tc])), (bq, x_N G 129 dk), (sq, x_N G 64 nsd)] ++ x_pl G pa ba cap len pb) ((Nat → Nat) × (Nat → Nat)) (fun r _ => r = nI 0) (fun u => [(h0, .inr (5, [.ref gq, .ref kd, .ref vq, .int (nI gc), .ref sq])), (gq, .inr (3, [.ref kq, .ref cq, .ref pq, .int (nI rs), .int ck, .int lt, .ref dq, .ref e0, .ref rq, .ref tq])), (kq, x_N G 16 (g_key key ctr nb)), (cq, x_N G 16 (g_cts ctr (nb + 1))), (pq, x_Q G 32 (fun j => some (pa j))), (e0, .inr (0, [.ref e1, .ref e2, .ref e3])), (e1, x_N G 176 (g_sch key)), (e2, x_N G 16 u.1), (e3, x_N G 16 u.2), (kd, .inr (2, [.ref bq, .int (wr + nI (d_n tc)), .int (d_te tc)])), (bq, x_N G 129 (d_dk dk (g_gen (g_sch key) ctr nsd nb) (d_n tc))), (sq, x_N G 64 (g_gen (g_sch key) ctr nsd nb))] ++ x_pl G pa ba cap len pb) 0 0 := by
  refine xMi.by r_Pd (by decide +kernel) (Nat.le_of_ble_eq_true rfl) rfl ?_
  intro p e s m args below meth c A ls Q E B hro hl hret
  have hl : lv_has ls 1 [(0, .ref h0)] := hl
  refine lv_aload_n E.1 E.2.1 d_Pd_saveNewSeed_0 rfl (lv_at hl 0 rfl) ?_
  refine x_get E B 0 rfl k_Pd 0 (by decide) wd_165 rfl d_Pd_saveNewSeed_1 ?_
  refine lv_bipush (v := nI 64) E.1 E.2.1 d_Pd_saveNewSeed_4 (by decide) ?_
  refine lv_aload_n E.1 E.2.1 d_Pd_saveNewSeed_6 rfl (lv_at hl 0 rfl) ?_
  refine x_get E B 0 rfl k_Pd 4 (by decide) wd_169 rfl d_Pd_saveNewSeed_7 ?_
  refine x_cvX (X' := fun u => [(h0, .inr (5, [.ref gq, .ref kd, .ref vq, .int (nI gc), .ref sq])), (gq, .inr (3, [.ref kq, .ref cq, .ref pq, .int (nI rs), .int ck, .int lt, .ref dq, .ref e0, .ref rq, .ref tq])), (kq, x_N G 16 (g_key key ctr nb)), (cq, x_N G 16 (g_cts ctr (nb + 1))), (pq, x_Q G 32 (fun j => some (pa j))), (e0, .inr (0, [.ref e1, .ref e2, .ref e3])), (e1, x_N G 176 (g_sch key)), (e2, x_N G 16 u.1), (e3, x_N G 16 u.2), (kd, .inr (2, [.ref bq, .int wr, .int tc])), (bq, x_N G 129 dk), (sq, x_N G 64 (g_gen (g_sch key) ctr nsd nb))]) 12 B (x_rV (rest := []) E B (q_Ge_generate G l gq kq cq pq dq e0 rq tq rs ck lt e1 e2 e3 k0 s0 v0 64 sq 64 nb key ctr nsd (hk) (hb) (by omega) (by omega) (by omega) _) (x_pre B [1, 2, 3, 5, 6, 7, 8, 11] rfl (by decide) x_ro0) 1 rfl k_Ge (gg_V wd_289 wd_290 wd_291 wd_35 wd_292) ⟨rfl, p_Ge_generate⟩ rfl rfl ⟨Nat.le_of_ble_eq_true rfl, Nat.le_of_ble_eq_true rfl⟩ rfl hl.1 rfl (Nat.le_of_ble_eq_true rfl) d_Pd_saveNewSeed_10 ⟨Nat.le_of_ble_eq_true rfl, Nat.le_of_ble_eq_true rfl⟩) [1, 2, 3, 5, 6, 7, 8, 11] [0, 4, 9, 10] rfl rfl (fun _ => rfl) rfl (by decide) (fun _ => rfl) (fun _ => rfl) (fun _ => rfl) (by decide) (fun u10 H locs hw10 B => ?_)
  have B : xB G A s _ _ ([(h0, .inr (5, [.ref gq, .ref kd, .ref vq, .int (nI gc), .ref sq])), (gq, .inr (3, [.ref kq, .ref cq, .ref pq, .int (nI rs), .int ck, .int lt, .ref dq, .ref e0, .ref rq, .ref tq])), (kq, x_N G 16 (g_key key ctr nb)), (cq, x_N G 16 (g_cts ctr (nb + 1))), (pq, x_Q G 32 (fun j => some (pa j))), (e0, .inr (0, [.ref e1, .ref e2, .ref e3])), (e1, x_N G 176 (g_sch key)), (e2, x_N G 16 u10.1), (e3, x_N G 16 u10.2), (kd, .inr (2, [.ref bq, .int wr, .int tc])), (bq, x_N G 129 dk), (sq, x_N G 64 (g_gen (g_sch key) ctr nsd nb))] ++ x_pl G pa ba cap len pb) := B
  refine lv_aload_n E.1 E.2.1 d_Pd_saveNewSeed_13 rfl (lv_at hl 0 rfl) ?_
  refine x_get E B 0 rfl k_Pd 1 (by decide) wd_166 rfl d_Pd_saveNewSeed_14 ?_
  refine lv_aload_n E.1 E.2.1 d_Pd_saveNewSeed_17 rfl (lv_at hl 0 rfl) ?_
  refine x_get E B 0 rfl k_Pd 4 (by decide) wd_169 rfl d_Pd_saveNewSeed_18 ?_
  refine x_ciX (X' := fun u => [(h0, .inr (5, [.ref gq, .ref kd, .ref vq, .int (nI gc), .ref sq])), (gq, .inr (3, [.ref kq, .ref cq, .ref pq, .int (nI rs), .int ck, .int lt, .ref dq, .ref e0, .ref rq, .ref tq])), (kq, x_N G 16 (g_key key ctr nb)), (cq, x_N G 16 (g_cts ctr (nb + 1))), (pq, x_Q G 32 (fun j => some (pa j))), (e0, .inr (0, [.ref e1, .ref e2, .ref e3])), (e1, x_N G 176 (g_sch key)), (e2, x_N G 16 u10.1), (e3, x_N G 16 u10.2), (kd, .inr (2, [.ref bq, .int (wr + nI (d_n tc)), .int (d_te tc)])), (bq, x_N G 129 (d_dk dk (g_gen (g_sch key) ctr nsd nb) (d_n tc))), (sq, x_N G 64 (g_gen (g_sch key) ctr nsd nb))]) 12 B (x_rV (rest := []) E B (q_Dk_store G l kd bq sq wr tc dk (g_gen (g_sch key) ctr nsd nb) (hd) _) (x_pre B [9, 10] rfl (by decide) (x_ro1 (x_ro_w B 11 rfl [9, 10] rfl (by decide)))) 9 rfl k_Dk (gg_V wd_338 wd_339 wd_340 wd_39 wd_341) ⟨rfl, p_Dk_store⟩ rfl rfl ⟨Nat.le_of_ble_eq_true rfl, Nat.le_of_ble_eq_true rfl⟩ rfl hl.1 rfl (Nat.le_of_ble_eq_true rfl) d_Pd_saveNewSeed_21 ⟨Nat.le_of_ble_eq_true rfl, Nat.le_of_ble_eq_true rfl⟩) [9, 10] [0, 1, 2, 3, 4, 5, 6, 7, 8, 11] rfl rfl (fun _ => rfl) rfl (by decide) (fun _ => rfl) (fun _ => rfl) (fun _ => rfl) (by decide) (fun r21 u21 H locs hw21 B => ?_)
  subst hw21
  have B : xB G A s _ _ ([(h0, .inr (5, [.ref gq, .ref kd, .ref vq, .int (nI gc), .ref sq])), (gq, .inr (3, [.ref kq, .ref cq, .ref pq, .int (nI rs), .int ck, .int lt, .ref dq, .ref e0, .ref rq, .ref tq])), (kq, x_N G 16 (g_key key ctr nb)), (cq, x_N G 16 (g_cts ctr (nb + 1))), (pq, x_Q G 32 (fun j => some (pa j))), (e0, .inr (0, [.ref e1, .ref e2, .ref e3])), (e1, x_N G 176 (g_sch key)), (e2, x_N G 16 u10.1), (e3, x_N G 16 u10.2), (kd, .inr (2, [.ref bq, .int (wr + nI (d_n tc)), .int (d_te tc)])), (bq, x_N G 129 (d_dk dk (g_gen (g_sch key) ctr nsd nb) (d_n tc))), (sq, x_N G 64 (g_gen (g_sch key) ctr nsd nb))] ++ x_pl G pa ba cap len pb) := B
  refine x_top (show nI (d_re tc) = nI 1 from congrArg nI (by exact d_re_y hok)) ?_
  refine x_if0 (tgt := 29) E d_Pd_saveNewSeed_24 (by decide) (by omega) (fun c1 => ?_) (fun c1 => ?_)
  · exfalso; omega
  · refine lv_iconst (v := nI 0) E.1 E.2.1 d_Pd_saveNewSeed_27 (by decide) ?_
    exact hret _ u10 _ _ _ _ B (rfl) d_Pd_saveNewSeed_28
set_option maxHeartbeats 4000000 in
set_option maxRecDepth 100000 in
theorem q_Pd_saveNewSeed_n (G : xG) (l : Launch) (h0 gq kd vq sq gc : Nat) (kq cq pq dq e0 rq tq rs : Nat) (ck lt : Int32) (e1 e2 e3 : Nat) (k0 s0 v0 : Nat → Nat) (bq : Nat) (wr tc : Int32) (nb : Nat) (key ctr dk nsd : Nat → Nat) (pa ba cap len : Nat → Nat) (pb : Nat → Nat → Nat) (hnb : nb = 4) (hk : g_bt 16 key) (hb : g_bt 16 ctr) (hd : g_bt 129 dk) (hok : ¬ d_n tc = 65) : xMi G l y_Pd_saveNewSeed c_Pd_saveNewSeed 1 .int ({ frames := 4, cells := 0, slots := 0, locals := 128 }) [.ref h0] [] ([(h0, .inr (5, [.ref gq, .ref kd, .ref vq, .int (nI gc), .ref sq])), (gq, .inr (3, [.ref kq, .ref cq, .ref pq, .int (nI rs), .int ck, .int lt, .ref dq, .ref e0, .ref rq, .ref tq])), (kq, x_N G 16 key), (cq, x_N G 16 ctr), (pq, x_Q G 32 (fun j => some (pa j))), (e0, .inr (0, [.ref e1, .ref e2, .ref e3])), (e1, x_N G 176 k0), (e2, x_N G 16 s0), (e3, x_N G 16 v0), (kd, .inr (2, [.ref bq, .int wr, .int tc])), (bq, x_N G 129 dk), (sq, x_N G 64 nsd)] ++ x_pl G pa ba cap len pb) ((Nat → Nat) × (Nat → Nat)) (fun r _ => r = nI 5) (fun u => [(h0, .inr (5, [.ref gq, .ref kd, .ref vq, .int (nI 0), .ref sq])), (gq, .inr (3, [.ref kq, .ref cq, .ref pq, .int (nI 0), .int (nI 0), .int (-1), .ref dq, .ref e0, .ref rq, .ref tq])), (kq, x_N G 16 (fun _ => 0)), (cq, x_N G 16 (fun _ => 0)), (pq, x_Q G 32 (fun j => some (pa j))), (e0, .inr (0, [.ref e1, .ref e2, .ref e3])), (e1, x_N G 176 (g_sch key)), (e2, x_N G 16 u.1), (e3, x_N G 16 u.2), (kd, .inr (2, [.ref bq, .int (wr + nI (d_n tc)), .int (d_te tc)])), (bq, x_N G 129 (d_dk dk (g_gen (g_sch key) ctr nsd nb) (d_n tc))), (sq, x_N G 64 (g_gen (g_sch key) ctr nsd nb))] ++ x_pl G pa ba cap (fun _ => 0) pb) 0 0 := by
  refine xMi.by r_Pd (by decide +kernel) (Nat.le_of_ble_eq_true rfl) rfl ?_
  intro p e s m args below meth c A ls Q E B hro hl hret
  have hl : lv_has ls 1 [(0, .ref h0)] := hl
  refine lv_aload_n E.1 E.2.1 d_Pd_saveNewSeed_0 rfl (lv_at hl 0 rfl) ?_
  refine x_get E B 0 rfl k_Pd 0 (by decide) wd_165 rfl d_Pd_saveNewSeed_1 ?_
  refine lv_bipush (v := nI 64) E.1 E.2.1 d_Pd_saveNewSeed_4 (by decide) ?_
  refine lv_aload_n E.1 E.2.1 d_Pd_saveNewSeed_6 rfl (lv_at hl 0 rfl) ?_
  refine x_get E B 0 rfl k_Pd 4 (by decide) wd_169 rfl d_Pd_saveNewSeed_7 ?_
  refine x_cvX (X' := fun u => [(h0, .inr (5, [.ref gq, .ref kd, .ref vq, .int (nI gc), .ref sq])), (gq, .inr (3, [.ref kq, .ref cq, .ref pq, .int (nI rs), .int ck, .int lt, .ref dq, .ref e0, .ref rq, .ref tq])), (kq, x_N G 16 (g_key key ctr nb)), (cq, x_N G 16 (g_cts ctr (nb + 1))), (pq, x_Q G 32 (fun j => some (pa j))), (e0, .inr (0, [.ref e1, .ref e2, .ref e3])), (e1, x_N G 176 (g_sch key)), (e2, x_N G 16 u.1), (e3, x_N G 16 u.2), (kd, .inr (2, [.ref bq, .int wr, .int tc])), (bq, x_N G 129 dk), (sq, x_N G 64 (g_gen (g_sch key) ctr nsd nb))]) 12 B (x_rV (rest := []) E B (q_Ge_generate G l gq kq cq pq dq e0 rq tq rs ck lt e1 e2 e3 k0 s0 v0 64 sq 64 nb key ctr nsd (hk) (hb) (by omega) (by omega) (by omega) _) (x_pre B [1, 2, 3, 5, 6, 7, 8, 11] rfl (by decide) x_ro0) 1 rfl k_Ge (gg_V wd_289 wd_290 wd_291 wd_35 wd_292) ⟨rfl, p_Ge_generate⟩ rfl rfl ⟨Nat.le_of_ble_eq_true rfl, Nat.le_of_ble_eq_true rfl⟩ rfl hl.1 rfl (Nat.le_of_ble_eq_true rfl) d_Pd_saveNewSeed_10 ⟨Nat.le_of_ble_eq_true rfl, Nat.le_of_ble_eq_true rfl⟩) [1, 2, 3, 5, 6, 7, 8, 11] [0, 4, 9, 10] rfl rfl (fun _ => rfl) rfl (by decide) (fun _ => rfl) (fun _ => rfl) (fun _ => rfl) (by decide) (fun u10 H locs hw10 B => ?_)
  have B : xB G A s _ _ ([(h0, .inr (5, [.ref gq, .ref kd, .ref vq, .int (nI gc), .ref sq])), (gq, .inr (3, [.ref kq, .ref cq, .ref pq, .int (nI rs), .int ck, .int lt, .ref dq, .ref e0, .ref rq, .ref tq])), (kq, x_N G 16 (g_key key ctr nb)), (cq, x_N G 16 (g_cts ctr (nb + 1))), (pq, x_Q G 32 (fun j => some (pa j))), (e0, .inr (0, [.ref e1, .ref e2, .ref e3])), (e1, x_N G 176 (g_sch key)), (e2, x_N G 16 u10.1), (e3, x_N G 16 u10.2), (kd, .inr (2, [.ref bq, .int wr, .int tc])), (bq, x_N G 129 dk), (sq, x_N G 64 (g_gen (g_sch key) ctr nsd nb))] ++ x_pl G pa ba cap len pb) := B
  refine lv_aload_n E.1 E.2.1 d_Pd_saveNewSeed_13 rfl (lv_at hl 0 rfl) ?_
  refine x_get E B 0 rfl k_Pd 1 (by decide) wd_166 rfl d_Pd_saveNewSeed_14 ?_
  refine lv_aload_n E.1 E.2.1 d_Pd_saveNewSeed_17 rfl (lv_at hl 0 rfl) ?_
  refine x_get E B 0 rfl k_Pd 4 (by decide) wd_169 rfl d_Pd_saveNewSeed_18 ?_
  refine x_ciX (X' := fun u => [(h0, .inr (5, [.ref gq, .ref kd, .ref vq, .int (nI gc), .ref sq])), (gq, .inr (3, [.ref kq, .ref cq, .ref pq, .int (nI rs), .int ck, .int lt, .ref dq, .ref e0, .ref rq, .ref tq])), (kq, x_N G 16 (g_key key ctr nb)), (cq, x_N G 16 (g_cts ctr (nb + 1))), (pq, x_Q G 32 (fun j => some (pa j))), (e0, .inr (0, [.ref e1, .ref e2, .ref e3])), (e1, x_N G 176 (g_sch key)), (e2, x_N G 16 u10.1), (e3, x_N G 16 u10.2), (kd, .inr (2, [.ref bq, .int (wr + nI (d_n tc)), .int (d_te tc)])), (bq, x_N G 129 (d_dk dk (g_gen (g_sch key) ctr nsd nb) (d_n tc))), (sq, x_N G 64 (g_gen (g_sch key) ctr nsd nb))]) 12 B (x_rV (rest := []) E B (q_Dk_store G l kd bq sq wr tc dk (g_gen (g_sch key) ctr nsd nb) (hd) _) (x_pre B [9, 10] rfl (by decide) (x_ro1 (x_ro_w B 11 rfl [9, 10] rfl (by decide)))) 9 rfl k_Dk (gg_V wd_338 wd_339 wd_340 wd_39 wd_341) ⟨rfl, p_Dk_store⟩ rfl rfl ⟨Nat.le_of_ble_eq_true rfl, Nat.le_of_ble_eq_true rfl⟩ rfl hl.1 rfl (Nat.le_of_ble_eq_true rfl) d_Pd_saveNewSeed_21 ⟨Nat.le_of_ble_eq_true rfl, Nat.le_of_ble_eq_true rfl⟩) [9, 10] [0, 1, 2, 3, 4, 5, 6, 7, 8, 11] rfl rfl (fun _ => rfl) rfl (by decide) (fun _ => rfl) (fun _ => rfl) (fun _ => rfl) (by decide) (fun r21 u21 H locs hw21 B => ?_)
  subst hw21
  have B : xB G A s _ _ ([(h0, .inr (5, [.ref gq, .ref kd, .ref vq, .int (nI gc), .ref sq])), (gq, .inr (3, [.ref kq, .ref cq, .ref pq, .int (nI rs), .int ck, .int lt, .ref dq, .ref e0, .ref rq, .ref tq])), (kq, x_N G 16 (g_key key ctr nb)), (cq, x_N G 16 (g_cts ctr (nb + 1))), (pq, x_Q G 32 (fun j => some (pa j))), (e0, .inr (0, [.ref e1, .ref e2, .ref e3])), (e1, x_N G 176 (g_sch key)), (e2, x_N G 16 u10.1), (e3, x_N G 16 u10.2), (kd, .inr (2, [.ref bq, .int (wr + nI (d_n tc)), .int (d_te tc)])), (bq, x_N G 129 (d_dk dk (g_gen (g_sch key) ctr nsd nb) (d_n tc))), (sq, x_N G 64 (g_gen (g_sch key) ctr nsd nb))] ++ x_pl G pa ba cap len pb) := B
  refine x_top (show nI (d_re tc) = nI 0 from congrArg nI (by exact d_re_n hok)) ?_
  refine x_if0 (tgt := 29) E d_Pd_saveNewSeed_24 (by decide) (by omega) (fun c1 => ?_) (fun c1 => ?_)
  · refine lv_aload_n E.1 E.2.1 d_Pd_saveNewSeed_29 rfl (lv_at hl 0 rfl) ?_
    refine x_cvP (X' := fun u => [(h0, .inr (5, [.ref gq, .ref kd, .ref vq, .int (nI 0), .ref sq])), (gq, .inr (3, [.ref kq, .ref cq, .ref pq, .int (nI 0), .int (nI 0), .int (-1), .ref dq, .ref e0, .ref rq, .ref tq])), (kq, x_N G 16 (fun _ => 0)), (cq, x_N G 16 (fun _ => 0)), (pq, x_Q G 32 (fun j => some (pa j))), (e0, .inr (0, [.ref e1, .ref e2, .ref e3])), (e1, x_N G 176 (g_sch key)), (e2, x_N G 16 u10.1), (e3, x_N G 16 u10.2), (kd, .inr (2, [.ref bq, .int (wr + nI (d_n tc)), .int (d_te tc)])), (bq, x_N G 129 (d_dk dk (g_gen (g_sch key) ctr nsd nb) (d_n tc))), (sq, x_N G 64 (g_gen (g_sch key) ctr nsd nb))]) (pl1 := fun u => x_pl G pa ba cap (fun _ => 0) pb) (wr := [(e0, .inr (0, [.ref e1, .ref e2, .ref e3])), (e1, x_N G 176 (g_sch key)), (e2, x_N G 16 u10.1), (e3, x_N G 16 u10.2), (kd, .inr (2, [.ref bq, .int (wr + nI (d_n tc)), .int (d_te tc)])), (bq, x_N G 129 (d_dk dk (g_gen (g_sch key) ctr nsd nb) (d_n tc))), (sq, x_N G 64 (g_gen (g_sch key) ctr nsd nb))]) B (x_rV (rest := []) E B (q_Pd_startAgain G l h0 gq kd vq sq gc kq cq pq dq e0 rq tq rs ck lt (g_key key ctr nb) (g_cts ctr (nb + 1)) pa ba cap len pb  _) (x_preP B [0, 1, 2, 3, 4] rfl (by decide) x_ro0) 0 rfl k_Pd (gg_V wd_185 wd_187 wd_0 wd_34 wd_188) ⟨rfl, p_Pd_startAgain⟩ rfl rfl ⟨Nat.le_of_ble_eq_true rfl, Nat.le_of_ble_eq_true rfl⟩ rfl hl.1 rfl (Nat.le_of_ble_eq_true rfl) d_Pd_saveNewSeed_30 ⟨Nat.le_of_ble_eq_true rfl, Nat.le_of_ble_eq_true rfl⟩) [0, 1, 2, 3, 4] [5, 6, 7, 8, 9, 10, 11] [7, 8, 9, 10, 11, 0, 1, 2, 3, 4, 5, 6] rfl rfl (by decide) (by decide) (by decide) (fun _ => rfl) (fun u30 H locs hw30 B => ?_)
    have B : xB G A s _ _ ([(h0, .inr (5, [.ref gq, .ref kd, .ref vq, .int (nI 0), .ref sq])), (gq, .inr (3, [.ref kq, .ref cq, .ref pq, .int (nI 0), .int (nI 0), .int (-1), .ref dq, .ref e0, .ref rq, .ref tq])), (kq, x_N G 16 (fun _ => 0)), (cq, x_N G 16 (fun _ => 0)), (pq, x_Q G 32 (fun j => some (pa j))), (e0, .inr (0, [.ref e1, .ref e2, .ref e3])), (e1, x_N G 176 (g_sch key)), (e2, x_N G 16 u10.1), (e3, x_N G 16 u10.2), (kd, .inr (2, [.ref bq, .int (wr + nI (d_n tc)), .int (d_te tc)])), (bq, x_N G 129 (d_dk dk (g_gen (g_sch key) ctr nsd nb) (d_n tc))), (sq, x_N G 64 (g_gen (g_sch key) ctr nsd nb))] ++ x_pl G pa ba cap (fun _ => 0) pb) := B
    refine lv_iconst (v := nI 5) E.1 E.2.1 d_Pd_saveNewSeed_33 (by decide) ?_
    exact hret _ u10 _ _ _ _ B (rfl) d_Pd_saveNewSeed_34
  · exfalso; omega
set_option maxHeartbeats 4000000 in
set_option maxRecDepth 100000 in
theorem q_Pd_save_0 (G : xG) (l : Launch) (h0 gq kd vq sq gc : Nat) (kq cq pq dq e0 rq tq rs : Nat) (ck lt : Int32) (ctr : Nat → Nat) (hb : g_bt 16 ctr) (hsd : g_sd ctr = 0) : xMr G l y_Pd_save c_Pd_save 1 .int ({ frames := 1, cells := 0, slots := 0, locals := 21 }) [.ref h0] [] [(h0, .inr (5, [.ref gq, .ref kd, .ref vq, .int (nI gc), .ref sq])), (gq, .inr (3, [.ref kq, .ref cq, .ref pq, .int (nI rs), .int ck, .int lt, .ref dq, .ref e0, .ref rq, .ref tq])), (cq, x_N G 16 ctr)] (-2) := by
  refine xMr.by r_Pd (by decide +kernel) (Nat.le_of_ble_eq_true rfl) rfl ?_
  intro p e s m args below meth c A ls Q E B hro hl hret
  have hl : lv_has ls 1 [(0, .ref h0)] := hl
  refine lv_aload_n E.1 E.2.1 d_Pd_save_0 rfl (lv_at hl 0 rfl) ?_
  refine x_get E B 0 rfl k_Pd 0 (by decide) wd_165 rfl d_Pd_save_1 ?_
  refine x_cf (x_rV (rest := []) E B (q_Ge_isSeeded G l gq kq cq pq dq e0 rq tq rs ck lt ctr (hb) _) (x_pre B [1, 2] rfl (by decide) x_ro0) 1 rfl k_Ge (gg_V wd_285 wd_286 wd_287 wd_35 wd_288) ⟨rfl, p_Ge_isSeeded⟩ rfl rfl ⟨Nat.le_of_ble_eq_true rfl, Nat.le_of_ble_eq_true rfl⟩ rfl hl.1 rfl (Nat.le_of_ble_eq_true rfl) d_Pd_save_4 ⟨Nat.le_of_ble_eq_true rfl, Nat.le_of_ble_eq_true rfl⟩) ?_
  refine x_top (show nI (g_sd ctr) = nI 0 from congrArg nI (by exact hsd)) ?_
  refine x_ifn (tgt := 13) E d_Pd_save_7 (by decide) (by omega) (fun c1 => ?_) (fun c1 => ?_)
  · exfalso; omega
  · refine lv_bipush (v := -2) E.1 E.2.1 d_Pd_save_10 (by decide) ?_
    exact hret _ _ _ (rfl) d_Pd_save_12
set_option maxHeartbeats 4000000 in
set_option maxRecDepth 100000 in
theorem q_Pd_save_y (G : xG) (l : Launch) (h0 gq kd vq sq gc : Nat) (kq cq pq dq e0 rq tq rs : Nat) (ck lt : Int32) (e1 e2 e3 : Nat) (k0 s0 v0 : Nat → Nat) (bq : Nat) (wr tc : Int32) (nb : Nat) (key ctr dk nsd : Nat → Nat) (pa ba cap len : Nat → Nat) (pb : Nat → Nat → Nat) (hnb : nb = 4) (hk : g_bt 16 key) (hb : g_bt 16 ctr) (hd : g_bt 129 dk) (hok : d_n tc = 65) (hsd : g_sd ctr = 1) : xMi G l y_Pd_save c_Pd_save 1 .int ({ frames := 5, cells := 0, slots := 0, locals := 148 }) [.ref h0] [] ([(h0, .inr (5, [.ref gq, .ref kd, .ref vq, .int (nI gc), .ref sq])), (gq, .inr (3, [.ref kq, .ref cq, .ref pq, .int (nI rs), .int ck, .int lt, .ref dq, .ref e0, .ref rq, .ref tq])), (kq, x_N G 16 key), (cq, x_N G 16 ctr), (pq, x_Q G 32 (fun j => some (pa j))), (e0, .inr (0, [.ref e1, .ref e2, .ref e3])), (e1, x_N G 176 k0), (e2, x_N G 16 s0), (e3, x_N G 16 v0), (kd, .inr (2, [.ref bq, .int wr, .int tc])), (bq, x_N G 129 dk), (sq, x_N G 64 nsd)] ++ x_pl G pa ba cap len pb) ((Nat → Nat) × (Nat → Nat)) (fun r _ => r = nI 0) (fun u => [(h0, .inr (5, [.ref gq, .ref kd, .ref vq, .int (nI gc), .ref sq])), (gq, .inr (3, [.ref kq, .ref cq, .ref pq, .int (nI rs), .int ck, .int lt, .ref dq, .ref e0, .ref rq, .ref tq])), (kq, x_N G 16 (g_key key ctr nb)), (cq, x_N G 16 (g_cts ctr (nb + 1))), (pq, x_Q G 32 (fun j => some (pa j))), (e0, .inr (0, [.ref e1, .ref e2, .ref e3])), (e1, x_N G 176 (g_sch key)), (e2, x_N G 16 u.1), (e3, x_N G 16 u.2), (kd, .inr (2, [.ref bq, .int (wr + nI (d_n tc)), .int (d_te tc)])), (bq, x_N G 129 (d_dk dk (g_gen (g_sch key) ctr nsd nb) (d_n tc))), (sq, x_N G 64 (g_gen (g_sch key) ctr nsd nb))] ++ x_pl G pa ba cap len pb) 0 0 := by
  refine xMi.by r_Pd (by decide +kernel) (Nat.le_of_ble_eq_true rfl) rfl ?_
  intro p e s m args below meth c A ls Q E B hro hl hret
  have hl : lv_has ls 1 [(0, .ref h0)] := hl
  refine lv_aload_n E.1 E.2.1 d_Pd_save_0 rfl (lv_at hl 0 rfl) ?_
  refine x_get E B 0 rfl k_Pd 0 (by decide) wd_165 rfl d_Pd_save_1 ?_
  refine x_cf (x_rV (rest := []) E B (q_Ge_isSeeded G l gq kq cq pq dq e0 rq tq rs ck lt ctr (hb) _) (x_pre B [1, 3] rfl (by decide) x_ro0) 1 rfl k_Ge (gg_V wd_285 wd_286 wd_287 wd_35 wd_288) ⟨rfl, p_Ge_isSeeded⟩ rfl rfl ⟨Nat.le_of_ble_eq_true rfl, Nat.le_of_ble_eq_true rfl⟩ rfl hl.1 rfl (Nat.le_of_ble_eq_true rfl) d_Pd_save_4 ⟨Nat.le_of_ble_eq_true rfl, Nat.le_of_ble_eq_true rfl⟩) ?_
  refine x_top (show nI (g_sd ctr) = nI 1 from congrArg nI (by exact hsd)) ?_
  refine x_ifn (tgt := 13) E d_Pd_save_7 (by decide) (by omega) (fun c1 => ?_) (fun c1 => ?_)
  · refine lv_aload_n E.1 E.2.1 d_Pd_save_13 rfl (lv_at hl 0 rfl) ?_
    refine x_ciP (X' := fun u => [(h0, .inr (5, [.ref gq, .ref kd, .ref vq, .int (nI gc), .ref sq])), (gq, .inr (3, [.ref kq, .ref cq, .ref pq, .int (nI rs), .int ck, .int lt, .ref dq, .ref e0, .ref rq, .ref tq])), (kq, x_N G 16 (g_key key ctr nb)), (cq, x_N G 16 (g_cts ctr (nb + 1))), (pq, x_Q G 32 (fun j => some (pa j))), (e0, .inr (0, [.ref e1, .ref e2, .ref e3])), (e1, x_N G 176 (g_sch key)), (e2, x_N G 16 u.1), (e3, x_N G 16 u.2), (kd, .inr (2, [.ref bq, .int (wr + nI (d_n tc)), .int (d_te tc)])), (bq, x_N G 129 (d_dk dk (g_gen (g_sch key) ctr nsd nb) (d_n tc))), (sq, x_N G 64 (g_gen (g_sch key) ctr nsd nb))]) (pl1 := fun u => x_pl G pa ba cap len pb) (wr := []) B (x_rV (rest := []) E B (q_Pd_saveNewSeed_y G l h0 gq kd vq sq gc kq cq pq dq e0 rq tq rs ck lt e1 e2 e3 k0 s0 v0 bq wr tc nb key ctr dk nsd pa ba cap len pb (hnb) (hk) (hb) (hd) (hok) _) (x_preP B [0, 1, 2, 3, 4, 5, 6, 7, 8, 9, 10, 11] rfl (by decide) x_ro0) 0 rfl k_Pd (gg_V wd_334 wd_336 wd_13 wd_34 wd_337) ⟨rfl, p_Pd_saveNewSeed⟩ rfl rfl ⟨Nat.le_of_ble_eq_true rfl, Nat.le_of_ble_eq_true rfl⟩ rfl hl.1 rfl (Nat.le_of_ble_eq_true rfl) d_Pd_save_14 ⟨Nat.le_of_ble_eq_true rfl, Nat.le_of_ble_eq_true rfl⟩) [0, 1, 2, 3, 4, 5, 6, 7, 8, 9, 10, 11] [] [0, 1, 2, 3, 4, 5, 6, 7, 8, 9, 10, 11] rfl rfl (by decide) (by decide) (by decide) (fun _ => rfl) (fun r14 u14 H locs hw14 B => ?_)
    subst hw14
    have B : xB G A s _ _ ([(h0, .inr (5, [.ref gq, .ref kd, .ref vq, .int (nI gc), .ref sq])), (gq, .inr (3, [.ref kq, .ref cq, .ref pq, .int (nI rs), .int ck, .int lt, .ref dq, .ref e0, .ref rq, .ref tq])), (kq, x_N G 16 (g_key key ctr nb)), (cq, x_N G 16 (g_cts ctr (nb + 1))), (pq, x_Q G 32 (fun j => some (pa j))), (e0, .inr (0, [.ref e1, .ref e2, .ref e3])), (e1, x_N G 176 (g_sch key)), (e2, x_N G 16 u14.1), (e3, x_N G 16 u14.2), (kd, .inr (2, [.ref bq, .int (wr + nI (d_n tc)), .int (d_te tc)])), (bq, x_N G 129 (d_dk dk (g_gen (g_sch key) ctr nsd nb) (d_n tc))), (sq, x_N G 64 (g_gen (g_sch key) ctr nsd nb))] ++ x_pl G pa ba cap len pb) := B
    exact hret _ u14 _ _ _ _ B (rfl) d_Pd_save_17
  · exfalso; omega
set_option maxHeartbeats 4000000 in
set_option maxRecDepth 100000 in
theorem q_Pd_save_n (G : xG) (l : Launch) (h0 gq kd vq sq gc : Nat) (kq cq pq dq e0 rq tq rs : Nat) (ck lt : Int32) (e1 e2 e3 : Nat) (k0 s0 v0 : Nat → Nat) (bq : Nat) (wr tc : Int32) (nb : Nat) (key ctr dk nsd : Nat → Nat) (pa ba cap len : Nat → Nat) (pb : Nat → Nat → Nat) (hnb : nb = 4) (hk : g_bt 16 key) (hb : g_bt 16 ctr) (hd : g_bt 129 dk) (hok : ¬ d_n tc = 65) (hsd : g_sd ctr = 1) : xMi G l y_Pd_save c_Pd_save 1 .int ({ frames := 5, cells := 0, slots := 0, locals := 148 }) [.ref h0] [] ([(h0, .inr (5, [.ref gq, .ref kd, .ref vq, .int (nI gc), .ref sq])), (gq, .inr (3, [.ref kq, .ref cq, .ref pq, .int (nI rs), .int ck, .int lt, .ref dq, .ref e0, .ref rq, .ref tq])), (kq, x_N G 16 key), (cq, x_N G 16 ctr), (pq, x_Q G 32 (fun j => some (pa j))), (e0, .inr (0, [.ref e1, .ref e2, .ref e3])), (e1, x_N G 176 k0), (e2, x_N G 16 s0), (e3, x_N G 16 v0), (kd, .inr (2, [.ref bq, .int wr, .int tc])), (bq, x_N G 129 dk), (sq, x_N G 64 nsd)] ++ x_pl G pa ba cap len pb) ((Nat → Nat) × (Nat → Nat)) (fun r _ => r = nI 5) (fun u => [(h0, .inr (5, [.ref gq, .ref kd, .ref vq, .int (nI 0), .ref sq])), (gq, .inr (3, [.ref kq, .ref cq, .ref pq, .int (nI 0), .int (nI 0), .int (-1), .ref dq, .ref e0, .ref rq, .ref tq])), (kq, x_N G 16 (fun _ => 0)), (cq, x_N G 16 (fun _ => 0)), (pq, x_Q G 32 (fun j => some (pa j))), (e0, .inr (0, [.ref e1, .ref e2, .ref e3])), (e1, x_N G 176 (g_sch key)), (e2, x_N G 16 u.1), (e3, x_N G 16 u.2), (kd, .inr (2, [.ref bq, .int (wr + nI (d_n tc)), .int (d_te tc)])), (bq, x_N G 129 (d_dk dk (g_gen (g_sch key) ctr nsd nb) (d_n tc))), (sq, x_N G 64 (g_gen (g_sch key) ctr nsd nb))] ++ x_pl G pa ba cap (fun _ => 0) pb) 0 0 := by
  refine xMi.by r_Pd (by decide +kernel) (Nat.le_of_ble_eq_true rfl) rfl ?_
  intro p e s m args below meth c A ls Q E B hro hl hret
  have hl : lv_has ls 1 [(0, .ref h0)] := hl
  refine lv_aload_n E.1 E.2.1 d_Pd_save_0 rfl (lv_at hl 0 rfl) ?_
  refine x_get E B 0 rfl k_Pd 0 (by decide) wd_165 rfl d_Pd_save_1 ?_
  refine x_cf (x_rV (rest := []) E B (q_Ge_isSeeded G l gq kq cq pq dq e0 rq tq rs ck lt ctr (hb) _) (x_pre B [1, 3] rfl (by decide) x_ro0) 1 rfl k_Ge (gg_V wd_285 wd_286 wd_287 wd_35 wd_288) ⟨rfl, p_Ge_isSeeded⟩ rfl rfl ⟨Nat.le_of_ble_eq_true rfl, Nat.le_of_ble_eq_true rfl⟩ rfl hl.1 rfl (Nat.le_of_ble_eq_true rfl) d_Pd_save_4 ⟨Nat.le_of_ble_eq_true rfl, Nat.le_of_ble_eq_true rfl⟩) ?_
  refine x_top (show nI (g_sd ctr) = nI 1 from congrArg nI (by exact hsd)) ?_
  refine x_ifn (tgt := 13) E d_Pd_save_7 (by decide) (by omega) (fun c1 => ?_) (fun c1 => ?_)
  · refine lv_aload_n E.1 E.2.1 d_Pd_save_13 rfl (lv_at hl 0 rfl) ?_
    refine x_ciP (X' := fun u => [(h0, .inr (5, [.ref gq, .ref kd, .ref vq, .int (nI 0), .ref sq])), (gq, .inr (3, [.ref kq, .ref cq, .ref pq, .int (nI 0), .int (nI 0), .int (-1), .ref dq, .ref e0, .ref rq, .ref tq])), (kq, x_N G 16 (fun _ => 0)), (cq, x_N G 16 (fun _ => 0)), (pq, x_Q G 32 (fun j => some (pa j))), (e0, .inr (0, [.ref e1, .ref e2, .ref e3])), (e1, x_N G 176 (g_sch key)), (e2, x_N G 16 u.1), (e3, x_N G 16 u.2), (kd, .inr (2, [.ref bq, .int (wr + nI (d_n tc)), .int (d_te tc)])), (bq, x_N G 129 (d_dk dk (g_gen (g_sch key) ctr nsd nb) (d_n tc))), (sq, x_N G 64 (g_gen (g_sch key) ctr nsd nb))]) (pl1 := fun u => x_pl G pa ba cap (fun _ => 0) pb) (wr := []) B (x_rV (rest := []) E B (q_Pd_saveNewSeed_n G l h0 gq kd vq sq gc kq cq pq dq e0 rq tq rs ck lt e1 e2 e3 k0 s0 v0 bq wr tc nb key ctr dk nsd pa ba cap len pb (hnb) (hk) (hb) (hd) (hok) _) (x_preP B [0, 1, 2, 3, 4, 5, 6, 7, 8, 9, 10, 11] rfl (by decide) x_ro0) 0 rfl k_Pd (gg_V wd_334 wd_336 wd_13 wd_34 wd_337) ⟨rfl, p_Pd_saveNewSeed⟩ rfl rfl ⟨Nat.le_of_ble_eq_true rfl, Nat.le_of_ble_eq_true rfl⟩ rfl hl.1 rfl (Nat.le_of_ble_eq_true rfl) d_Pd_save_14 ⟨Nat.le_of_ble_eq_true rfl, Nat.le_of_ble_eq_true rfl⟩) [0, 1, 2, 3, 4, 5, 6, 7, 8, 9, 10, 11] [] [0, 1, 2, 3, 4, 5, 6, 7, 8, 9, 10, 11] rfl rfl (by decide) (by decide) (by decide) (fun _ => rfl) (fun r14 u14 H locs hw14 B => ?_)
    subst hw14
    have B : xB G A s _ _ ([(h0, .inr (5, [.ref gq, .ref kd, .ref vq, .int (nI 0), .ref sq])), (gq, .inr (3, [.ref kq, .ref cq, .ref pq, .int (nI 0), .int (nI 0), .int (-1), .ref dq, .ref e0, .ref rq, .ref tq])), (kq, x_N G 16 (fun _ => 0)), (cq, x_N G 16 (fun _ => 0)), (pq, x_Q G 32 (fun j => some (pa j))), (e0, .inr (0, [.ref e1, .ref e2, .ref e3])), (e1, x_N G 176 (g_sch key)), (e2, x_N G 16 u14.1), (e3, x_N G 16 u14.2), (kd, .inr (2, [.ref bq, .int (wr + nI (d_n tc)), .int (d_te tc)])), (bq, x_N G 129 (d_dk dk (g_gen (g_sch key) ctr nsd nb) (d_n tc))), (sq, x_N G 64 (g_gen (g_sch key) ctr nsd nb))] ++ x_pl G pa ba cap (fun _ => 0) pb) := B
    exact hret _ u14 _ _ _ _ B (rfl) d_Pd_save_17
  · exfalso; omega
end
section
set_option maxHeartbeats 4000000 in
set_option maxRecDepth 100000 in
theorem q_Pd_load_0 (G : xG) (l : Launch) (h0 gq kd vq sq gc : Nat) (bq : Nat) (wr tc : Int32) (dk : Nat → Nat) (hd : g_bt 129 dk) (hpl : d_pl dk = 0) : xMr G l y_Pd_load c_Pd_load 2 .int ({ frames := 1, cells := 0, slots := 0, locals := 20 }) [.ref h0] [] [(h0, .inr (5, [.ref gq, .ref kd, .ref vq, .int (nI gc), .ref sq])), (kd, .inr (2, [.ref bq, .int wr, .int tc])), (bq, x_N G 129 dk)] (nI 1) := by
  refine xMr.by r_Pd (by decide +kernel) (Nat.le_of_ble_eq_true rfl) rfl ?_
  intro p e s m args below meth c A ls Q E B hro hl hret
  have hl : lv_has ls 2 [(0, .ref h0)] := hl
  refine lv_aload_n E.1 E.2.1 d_Pd_load_0 rfl (lv_at hl 0 rfl) ?_
  refine x_get E B 0 rfl k_Pd 1 (by decide) wd_166 rfl d_Pd_load_1 ?_
  refine x_cf (x_rV (rest := []) E B (q_Dk_seedPlace G l kd bq wr tc dk (hd) _) (x_pre B [1, 2] rfl (by decide) x_ro0) 1 rfl k_Dk (gg_V wd_350 wd_351 wd_352 wd_39 wd_353) ⟨rfl, p_Dk_seedPlace⟩ rfl rfl ⟨Nat.le_of_ble_eq_true rfl, Nat.le_of_ble_eq_true rfl⟩ rfl hl.1 rfl (Nat.le_of_ble_eq_true rfl) d_Pd_load_4 ⟨Nat.le_of_ble_eq_true rfl, Nat.le_of_ble_eq_true rfl⟩) ?_
  refine x_top (show nI (d_pl dk) = nI 0 from congrArg nI (by exact hpl)) ?_
  refine lv_istore_n (lv' := [(1, .int (nI 0)), (0, .ref h0)]) E.1 E.2.1 d_Pd_load_7 rfl hl (by decide) rfl (fun ls hl => ?_)
  refine lv_iload_n E.1 E.2.1 d_Pd_load_8 rfl (lv_at hl 0 rfl) ?_
  refine x_ifn (tgt := 14) E d_Pd_load_9 (by decide) (by omega) (fun c1 => ?_) (fun c1 => ?_)
  · exfalso; omega
  · refine lv_iconst (v := nI 1) E.1 E.2.1 d_Pd_load_12 (by decide) ?_
    exact hret _ _ _ (rfl) d_Pd_load_13
set_option maxHeartbeats 4000000 in
set_option maxRecDepth 100000 in
theorem q_Pd_load_y (G : xG) (l : Launch) (h0 gq kd vq sq gc : Nat) (kq cq pq dq e0 rq tq rs : Nat) (ck lt : Int32) (d1 d2 d3 : Nat) (Hf w0 : Nat → Int32) (go : Nat → Nat) (e1 e2 e3 : Nat) (k0 s0 v0 : Nat → Nat) (bq : Nat) (wr tc : Int32) (nb c6 : Nat) (key ctr rr tt dk nsd : Nat → Nat) (pa ba cap len : Nat → Nat) (pb : Nat → Nat → Nat) (hnb : nb = 4) (hc6 : c6 = 64) (hk : g_bt 16 key) (hb : g_bt 16 ctr) (hd : g_bt 129 dk) (hok : d_n tc = 65) (hpl : ¬ d_pl dk = 0) : xMi G l y_Pd_load c_Pd_load 2 .int ({ frames := 6, cells := 0, slots := 0, locals := 152 }) [.ref h0] [] ([(h0, .inr (5, [.ref gq, .ref kd, .ref vq, .int (nI gc), .ref sq])), (gq, .inr (3, [.ref kq, .ref cq, .ref pq, .int (nI rs), .int ck, .int lt, .ref dq, .ref e0, .ref rq, .ref tq])), (kq, x_N G 16 key), (cq, x_N G 16 ctr), (pq, x_Q G 32 (fun j => some (pa j))), (dq, .inr (1, [.ref d1, .ref d2, .ref d3])), (d1, x_I G 8 Hf), (d2, x_I G 64 w0), (d3, x_N G 32 go), (e0, .inr (0, [.ref e1, .ref e2, .ref e3])), (e1, x_N G 176 k0), (e2, x_N G 16 s0), (e3, x_N G 16 v0), (rq, x_N G 1040 rr), (tq, x_N G 32 tt), (kd, .inr (2, [.ref bq, .int wr, .int tc])), (bq, x_N G 129 dk), (sq, x_N G 64 nsd)] ++ x_pl G pa ba cap len pb) ((Nat → Int32) × (Nat → Int32) × (Nat → Nat) × (Nat → Nat)) (fun r _ => r = nI 0) (fun u => [(h0, .inr (5, [.ref gq, .ref kd, .ref vq, .int (nI gc), .ref sq])), (gq, .inr (3, [.ref kq, .ref cq, .ref pq, .int (nI rs), .int ck, .int lt, .ref dq, .ref e0, .ref rq, .ref tq])), (kq, x_N G 16 (g_key (h_tw (va_cpy key (va_cpy dk rr (d_pl dk) 16 c6) 0 0 16) (16 + c6)) (g_ct ctr) nb)), (cq, x_N G 16 (g_cts (g_ct ctr) (nb + 1))), (pq, x_Q G 32 (fun j => some (pa j))), (dq, .inr (1, [.ref d1, .ref d2, .ref d3])), (d1, x_I G 8 u.1), (d2, x_I G 64 u.2.1), (d3, x_N G 32 (h_dg (va_cpy key (va_cpy dk rr (d_pl dk) 16 c6) 0 0 16) (16 + c6))), (e0, .inr (0, [.ref e1, .ref e2, .ref e3])), (e1, x_N G 176 (g_sch (h_tw (va_cpy key (va_cpy dk rr (d_pl dk) 16 c6) 0 0 16) (16 + c6)))), (e2, x_N G 16 u.2.2.1), (e3, x_N G 16 u.2.2.2), (rq, x_N G 1040 (va_cpy key (va_cpy dk rr (d_pl dk) 16 c6) 0 0 16)), (tq, x_N G 32 (h_tw (va_cpy key (va_cpy dk rr (d_pl dk) 16 c6) 0 0 16) (16 + c6))), (kd, .inr (2, [.ref bq, .int (wr + nI (d_n tc)), .int (d_te tc)])), (bq, x_N G 129 (d_dk dk (g_gen (g_sch (h_tw (va_cpy key (va_cpy dk rr (d_pl dk) 16 c6) 0 0 16) (16 + c6))) (g_ct ctr) nsd nb) (d_n tc))), (sq, x_N G 64 (g_gen (g_sch (h_tw (va_cpy key (va_cpy dk rr (d_pl dk) 16 c6) 0 0 16) (16 + c6))) (g_ct ctr) nsd nb))] ++ x_pl G pa ba cap len pb) 0 0 := by
  refine xMi.by r_Pd (by decide +kernel) (Nat.le_of_ble_eq_true rfl) rfl ?_
  intro p e s m args below meth c A ls Q E B hro hl hret
  have hl : lv_has ls 2 [(0, .ref h0)] := hl
  have hple : d_pl dk ≤ 65 := by unfold d_pl; split <;> (try split) <;> omega
  refine lv_aload_n E.1 E.2.1 d_Pd_load_0 rfl (lv_at hl 0 rfl) ?_
  refine x_get E B 0 rfl k_Pd 1 (by decide) wd_166 rfl d_Pd_load_1 ?_
  refine x_cf (x_rV (rest := []) E B (q_Dk_seedPlace G l kd bq wr tc dk (hd) _) (x_pre B [15, 16] rfl (by decide) x_ro0) 15 rfl k_Dk (gg_V wd_350 wd_351 wd_352 wd_39 wd_353) ⟨rfl, p_Dk_seedPlace⟩ rfl rfl ⟨Nat.le_of_ble_eq_true rfl, Nat.le_of_ble_eq_true rfl⟩ rfl hl.1 rfl (Nat.le_of_ble_eq_true rfl) d_Pd_load_4 ⟨Nat.le_of_ble_eq_true rfl, Nat.le_of_ble_eq_true rfl⟩) ?_
  refine lv_istore_n (lv' := [(1, .int (nI (d_pl dk))), (0, .ref h0)]) E.1 E.2.1 d_Pd_load_7 rfl hl (by decide) rfl (fun ls hl => ?_)
  refine lv_iload_n E.1 E.2.1 d_Pd_load_8 rfl (lv_at hl 0 rfl) ?_
  refine x_ifn (tgt := 14) E d_Pd_load_9 (by decide) (by omega) (fun hz => ?_) (fun hz => ?_)
  · refine lv_aload_n E.1 E.2.1 d_Pd_load_14 rfl (lv_at hl 1 rfl) ?_
    refine x_get E B 0 rfl k_Pd 0 (by decide) wd_165 rfl d_Pd_load_15 ?_
    refine lv_aload_n E.1 E.2.1 d_Pd_load_18 rfl (lv_at hl 1 rfl) ?_
    refine x_get E B 0 rfl k_Pd 1 (by decide) wd_166 rfl d_Pd_load_19 ?_
    refine x_get E B 15 rfl k_Dk 0 (by decide) wd_153 rfl d_Pd_load_22 ?_
    refine lv_iload_n E.1 E.2.1 d_Pd_load_25 rfl (lv_at hl 0 rfl) ?_
    refine lv_bipush (v := nI 64) E.1 E.2.1 d_Pd_load_26 (by decide) ?_
    refine x_top (show nI 64 = nI c6 from congrArg nI (by omega)) ?_
    refine x_cvX (X' := fun u => [(h0, .inr (5, [.ref gq, .ref kd, .ref vq, .int (nI gc), .ref sq])), (gq, .inr (3, [.ref kq, .ref cq, .ref pq, .int (nI rs), .int ck, .int lt, .ref dq, .ref e0, .ref rq, .ref tq])), (kq, x_N G 16 (h_tw (va_cpy key (va_cpy dk rr (d_pl dk) 16 c6) 0 0 16) (16 + c6))), (cq, x_N G 16 (g_ct ctr)), (pq, x_Q G 32 (fun j => some (pa j))), (dq, .inr (1, [.ref d1, .ref d2, .ref d3])), (d1, x_I G 8 u.1), (d2, x_I G 64 u.2), (d3, x_N G 32 (h_dg (va_cpy key (va_cpy dk rr (d_pl dk) 16 c6) 0 0 16) (16 + c6))), (e0, .inr (0, [.ref e1, .ref e2, .ref e3])), (e1, x_N G 176 k0), (e2, x_N G 16 s0), (e3, x_N G 16 v0), (rq, x_N G 1040 (va_cpy key (va_cpy dk rr (d_pl dk) 16 c6) 0 0 16)), (tq, x_N G 32 (h_tw (va_cpy key (va_cpy dk rr (d_pl dk) 16 c6) 0 0 16) (16 + c6))), (kd, .inr (2, [.ref bq, .int wr, .int tc])), (bq, x_N G 129 dk), (sq, x_N G 64 nsd)]) 18 B (x_rV (rest := []) E B (q_Ge_reseedWith G l gq kq cq pq dq e0 rq tq rs ck lt d1 d2 d3 Hf w0 go bq 129 (d_pl dk) c6 key ctr rr tt dk (by omega) (by omega) (by omega) (hk) (fun j hj => hd _ (by omega)) (hb) _) (x_pre B [1, 2, 3, 5, 6, 7, 8, 13, 14] rfl (by decide) (x_ro1 (x_ro_w B 16 rfl [1, 2, 3, 5, 6, 7, 8, 13, 14] rfl (by decide)))) 1 rfl k_Ge (gg_V wd_354 wd_355 wd_356 wd_35 wd_357) ⟨rfl, p_Ge_reseedWith⟩ rfl rfl ⟨Nat.le_of_ble_eq_true rfl, Nat.le_of_ble_eq_true rfl⟩ rfl hl.1 rfl (Nat.le_of_ble_eq_true rfl) d_Pd_load_28 ⟨Nat.le_of_ble_eq_true rfl, Nat.le_of_ble_eq_true rfl⟩) [1, 2, 3, 5, 6, 7, 8, 13, 14] [0, 4, 9, 10, 11, 12, 15, 16, 17] rfl rfl (fun _ => rfl) rfl (by decide) (fun _ => rfl) (fun _ => rfl) (fun _ => rfl) (by decide) (fun u28 H locs hw28 B => ?_)
    have B : xB G A s _ _ ([(h0, .inr (5, [.ref gq, .ref kd, .ref vq, .int (nI gc), .ref sq])), (gq, .inr (3, [.ref kq, .ref cq, .ref pq, .int (nI rs), .int ck, .int lt, .ref dq, .ref e0, .ref rq, .ref tq])), (kq, x_N G 16 (h_tw (va_cpy key (va_cpy dk rr (d_pl dk) 16 c6) 0 0 16) (16 + c6))), (cq, x_N G 16 (g_ct ctr)), (pq, x_Q G 32 (fun j => some (pa j))), (dq, .inr (1, [.ref d1, .ref d2, .ref d3])), (d1, x_I G 8 u28.1), (d2, x_I G 64 u28.2), (d3, x_N G 32 (h_dg (va_cpy key (va_cpy dk rr (d_pl dk) 16 c6) 0 0 16) (16 + c6))), (e0, .inr (0, [.ref e1, .ref e2, .ref e3])), (e1, x_N G 176 k0), (e2, x_N G 16 s0), (e3, x_N G 16 v0), (rq, x_N G 1040 (va_cpy key (va_cpy dk rr (d_pl dk) 16 c6) 0 0 16)), (tq, x_N G 32 (h_tw (va_cpy key (va_cpy dk rr (d_pl dk) 16 c6) 0 0 16) (16 + c6))), (kd, .inr (2, [.ref bq, .int wr, .int tc])), (bq, x_N G 129 dk), (sq, x_N G 64 nsd)] ++ x_pl G pa ba cap len pb) := B
    refine lv_aload_n E.1 E.2.1 d_Pd_load_31 rfl (lv_at hl 1 rfl) ?_
    refine x_ciP (X' := fun u => [(h0, .inr (5, [.ref gq, .ref kd, .ref vq, .int (nI gc), .ref sq])), (gq, .inr (3, [.ref kq, .ref cq, .ref pq, .int (nI rs), .int ck, .int lt, .ref dq, .ref e0, .ref rq, .ref tq])), (kq, x_N G 16 (g_key (h_tw (va_cpy key (va_cpy dk rr (d_pl dk) 16 c6) 0 0 16) (16 + c6)) (g_ct ctr) nb)), (cq, x_N G 16 (g_cts (g_ct ctr) (nb + 1))), (pq, x_Q G 32 (fun j => some (pa j))), (dq, .inr (1, [.ref d1, .ref d2, .ref d3])), (d1, x_I G 8 u28.1), (d2, x_I G 64 u28.2), (d3, x_N G 32 (h_dg (va_cpy key (va_cpy dk rr (d_pl dk) 16 c6) 0 0 16) (16 + c6))), (e0, .inr (0, [.ref e1, .ref e2, .ref e3])), (e1, x_N G 176 (g_sch (h_tw (va_cpy key (va_cpy dk rr (d_pl dk) 16 c6) 0 0 16) (16 + c6)))), (e2, x_N G 16 u.1), (e3, x_N G 16 u.2), (rq, x_N G 1040 (va_cpy key (va_cpy dk rr (d_pl dk) 16 c6) 0 0 16)), (tq, x_N G 32 (h_tw (va_cpy key (va_cpy dk rr (d_pl dk) 16 c6) 0 0 16) (16 + c6))), (kd, .inr (2, [.ref bq, .int (wr + nI (d_n tc)), .int (d_te tc)])), (bq, x_N G 129 (d_dk dk (g_gen (g_sch (h_tw (va_cpy key (va_cpy dk rr (d_pl dk) 16 c6) 0 0 16) (16 + c6))) (g_ct ctr) nsd nb) (d_n tc))), (sq, x_N G 64 (g_gen (g_sch (h_tw (va_cpy key (va_cpy dk rr (d_pl dk) 16 c6) 0 0 16) (16 + c6))) (g_ct ctr) nsd nb))]) (pl1 := fun u => x_pl G pa ba cap len pb) (wr := [(dq, .inr (1, [.ref d1, .ref d2, .ref d3])), (d1, x_I G 8 u28.1), (d2, x_I G 64 u28.2), (d3, x_N G 32 (h_dg (va_cpy key (va_cpy dk rr (d_pl dk) 16 c6) 0 0 16) (16 + c6))), (rq, x_N G 1040 (va_cpy key (va_cpy dk rr (d_pl dk) 16 c6) 0 0 16)), (tq, x_N G 32 (h_tw (va_cpy key (va_cpy dk rr (d_pl dk) 16 c6) 0 0 16) (16 + c6)))]) B (x_rV (rest := []) E B (q_Pd_saveNewSeed_y G l h0 gq kd vq sq gc kq cq pq dq e0 rq tq rs ck lt e1 e2 e3 k0 s0 v0 bq wr tc nb (h_tw (va_cpy key (va_cpy dk rr (d_pl dk) 16 c6) 0 0 16) (16 + c6)) (g_ct ctr) dk nsd pa ba cap len pb (hnb) (fun j _ => h_tw_lt _ _ j) (g_ct_bt hb) (hd) (hok) _) (x_preP B [0, 1, 2, 3, 4, 9, 10, 11, 12, 15, 16, 17] rfl (by decide) x_ro0) 0 rfl k_Pd (gg_V wd_334 wd_336 wd_13 wd_34 wd_337) ⟨rfl, p_Pd_saveNewSeed⟩ rfl rfl ⟨Nat.le_of_ble_eq_true rfl, Nat.le_of_ble_eq_true rfl⟩ rfl hl.1 rfl (Nat.le_of_ble_eq_true rfl) d_Pd_load_32 ⟨Nat.le_of_ble_eq_true rfl, Nat.le_of_ble_eq_true rfl⟩) [0, 1, 2, 3, 4, 9, 10, 11, 12, 15, 16, 17] [5, 6, 7, 8, 13, 14] [6, 7, 8, 9, 10, 0, 1, 2, 3, 11, 12, 13, 14, 4, 5, 15, 16, 17] rfl rfl (by decide) (by decide) (by decide) (fun _ => rfl) (fun r32 u32 H locs hw32 B => ?_)
    subst hw32
    have B : xB G A s _ _ ([(h0, .inr (5, [.ref gq, .ref kd, .ref vq, .int (nI gc), .ref sq])), (gq, .inr (3, [.ref kq, .ref cq, .ref pq, .int (nI rs), .int ck, .int lt, .ref dq, .ref e0, .ref rq, .ref tq])), (kq, x_N G 16 (g_key (h_tw (va_cpy key (va_cpy dk rr (d_pl dk) 16 c6) 0 0 16) (16 + c6)) (g_ct ctr) nb)), (cq, x_N G 16 (g_cts (g_ct ctr) (nb + 1))), (pq, x_Q G 32 (fun j => some (pa j))), (dq, .inr (1, [.ref d1, .ref d2, .ref d3])), (d1, x_I G 8 u28.1), (d2, x_I G 64 u28.2), (d3, x_N G 32 (h_dg (va_cpy key (va_cpy dk rr (d_pl dk) 16 c6) 0 0 16) (16 + c6))), (e0, .inr (0, [.ref e1, .ref e2, .ref e3])), (e1, x_N G 176 (g_sch (h_tw (va_cpy key (va_cpy dk rr (d_pl dk) 16 c6) 0 0 16) (16 + c6)))), (e2, x_N G 16 u32.1), (e3, x_N G 16 u32.2), (rq, x_N G 1040 (va_cpy key (va_cpy dk rr (d_pl dk) 16 c6) 0 0 16)), (tq, x_N G 32 (h_tw (va_cpy key (va_cpy dk rr (d_pl dk) 16 c6) 0 0 16) (16 + c6))), (kd, .inr (2, [.ref bq, .int (wr + nI (d_n tc)), .int (d_te tc)])), (bq, x_N G 129 (d_dk dk (g_gen (g_sch (h_tw (va_cpy key (va_cpy dk rr (d_pl dk) 16 c6) 0 0 16) (16 + c6))) (g_ct ctr) nsd nb) (d_n tc))), (sq, x_N G 64 (g_gen (g_sch (h_tw (va_cpy key (va_cpy dk rr (d_pl dk) 16 c6) 0 0 16) (16 + c6))) (g_ct ctr) nsd nb))] ++ x_pl G pa ba cap len pb) := B
    exact hret _ (u28.1, u28.2, u32.1, u32.2) _ _ _ _ B (rfl) d_Pd_load_35
  · exfalso; omega
set_option maxHeartbeats 4000000 in
set_option maxRecDepth 100000 in
theorem q_Pd_load_n (G : xG) (l : Launch) (h0 gq kd vq sq gc : Nat) (kq cq pq dq e0 rq tq rs : Nat) (ck lt : Int32) (d1 d2 d3 : Nat) (Hf w0 : Nat → Int32) (go : Nat → Nat) (e1 e2 e3 : Nat) (k0 s0 v0 : Nat → Nat) (bq : Nat) (wr tc : Int32) (nb c6 : Nat) (key ctr rr tt dk nsd : Nat → Nat) (pa ba cap len : Nat → Nat) (pb : Nat → Nat → Nat) (hnb : nb = 4) (hc6 : c6 = 64) (hk : g_bt 16 key) (hb : g_bt 16 ctr) (hd : g_bt 129 dk) (hok : ¬ d_n tc = 65) (hpl : ¬ d_pl dk = 0) : xMi G l y_Pd_load c_Pd_load 2 .int ({ frames := 6, cells := 0, slots := 0, locals := 152 }) [.ref h0] [] ([(h0, .inr (5, [.ref gq, .ref kd, .ref vq, .int (nI gc), .ref sq])), (gq, .inr (3, [.ref kq, .ref cq, .ref pq, .int (nI rs), .int ck, .int lt, .ref dq, .ref e0, .ref rq, .ref tq])), (kq, x_N G 16 key), (cq, x_N G 16 ctr), (pq, x_Q G 32 (fun j => some (pa j))), (dq, .inr (1, [.ref d1, .ref d2, .ref d3])), (d1, x_I G 8 Hf), (d2, x_I G 64 w0), (d3, x_N G 32 go), (e0, .inr (0, [.ref e1, .ref e2, .ref e3])), (e1, x_N G 176 k0), (e2, x_N G 16 s0), (e3, x_N G 16 v0), (rq, x_N G 1040 rr), (tq, x_N G 32 tt), (kd, .inr (2, [.ref bq, .int wr, .int tc])), (bq, x_N G 129 dk), (sq, x_N G 64 nsd)] ++ x_pl G pa ba cap len pb) ((Nat → Int32) × (Nat → Int32) × (Nat → Nat) × (Nat → Nat)) (fun r _ => r = nI 5) (fun u => [(h0, .inr (5, [.ref gq, .ref kd, .ref vq, .int (nI 0), .ref sq])), (gq, .inr (3, [.ref kq, .ref cq, .ref pq, .int (nI 0), .int (nI 0), .int (-1), .ref dq, .ref e0, .ref rq, .ref tq])), (kq, x_N G 16 (fun _ => 0)), (cq, x_N G 16 (fun _ => 0)), (pq, x_Q G 32 (fun j => some (pa j))), (dq, .inr (1, [.ref d1, .ref d2, .ref d3])), (d1, x_I G 8 u.1), (d2, x_I G 64 u.2.1), (d3, x_N G 32 (h_dg (va_cpy key (va_cpy dk rr (d_pl dk) 16 c6) 0 0 16) (16 + c6))), (e0, .inr (0, [.ref e1, .ref e2, .ref e3])), (e1, x_N G 176 (g_sch (h_tw (va_cpy key (va_cpy dk rr (d_pl dk) 16 c6) 0 0 16) (16 + c6)))), (e2, x_N G 16 u.2.2.1), (e3, x_N G 16 u.2.2.2), (rq, x_N G 1040 (va_cpy key (va_cpy dk rr (d_pl dk) 16 c6) 0 0 16)), (tq, x_N G 32 (h_tw (va_cpy key (va_cpy dk rr (d_pl dk) 16 c6) 0 0 16) (16 + c6))), (kd, .inr (2, [.ref bq, .int (wr + nI (d_n tc)), .int (d_te tc)])), (bq, x_N G 129 (d_dk dk (g_gen (g_sch (h_tw (va_cpy key (va_cpy dk rr (d_pl dk) 16 c6) 0 0 16) (16 + c6))) (g_ct ctr) nsd nb) (d_n tc))), (sq, x_N G 64 (g_gen (g_sch (h_tw (va_cpy key (va_cpy dk rr (d_pl dk) 16 c6) 0 0 16) (16 + c6))) (g_ct ctr) nsd nb))] ++ x_pl G pa ba cap (fun _ => 0) pb) 0 0 := by
  refine xMi.by r_Pd (by decide +kernel) (Nat.le_of_ble_eq_true rfl) rfl ?_
  intro p e s m args below meth c A ls Q E B hro hl hret
  have hl : lv_has ls 2 [(0, .ref h0)] := hl
  have hple : d_pl dk ≤ 65 := by unfold d_pl; split <;> (try split) <;> omega
  refine lv_aload_n E.1 E.2.1 d_Pd_load_0 rfl (lv_at hl 0 rfl) ?_
  refine x_get E B 0 rfl k_Pd 1 (by decide) wd_166 rfl d_Pd_load_1 ?_
  refine x_cf (x_rV (rest := []) E B (q_Dk_seedPlace G l kd bq wr tc dk (hd) _) (x_pre B [15, 16] rfl (by decide) x_ro0) 15 rfl k_Dk (gg_V wd_350 wd_351 wd_352 wd_39 wd_353) ⟨rfl, p_Dk_seedPlace⟩ rfl rfl ⟨Nat.le_of_ble_eq_true rfl, Nat.le_of_ble_eq_true rfl⟩ rfl hl.1 rfl (Nat.le_of_ble_eq_true rfl) d_Pd_load_4 ⟨Nat.le_of_ble_eq_true rfl, Nat.le_of_ble_eq_true rfl⟩) ?_
  refine lv_istore_n (lv' := [(1, .int (nI (d_pl dk))), (0, .ref h0)]) E.1 E.2.1 d_Pd_load_7 rfl hl (by decide) rfl (fun ls hl => ?_)
  refine lv_iload_n E.1 E.2.1 d_Pd_load_8 rfl (lv_at hl 0 rfl) ?_
  refine x_ifn (tgt := 14) E d_Pd_load_9 (by decide) (by omega) (fun hz => ?_) (fun hz => ?_)
  · refine lv_aload_n E.1 E.2.1 d_Pd_load_14 rfl (lv_at hl 1 rfl) ?_
    refine x_get E B 0 rfl k_Pd 0 (by decide) wd_165 rfl d_Pd_load_15 ?_
    refine lv_aload_n E.1 E.2.1 d_Pd_load_18 rfl (lv_at hl 1 rfl) ?_
    refine x_get E B 0 rfl k_Pd 1 (by decide) wd_166 rfl d_Pd_load_19 ?_
    refine x_get E B 15 rfl k_Dk 0 (by decide) wd_153 rfl d_Pd_load_22 ?_
    refine lv_iload_n E.1 E.2.1 d_Pd_load_25 rfl (lv_at hl 0 rfl) ?_
    refine lv_bipush (v := nI 64) E.1 E.2.1 d_Pd_load_26 (by decide) ?_
    refine x_top (show nI 64 = nI c6 from congrArg nI (by omega)) ?_
    refine x_cvX (X' := fun u => [(h0, .inr (5, [.ref gq, .ref kd, .ref vq, .int (nI gc), .ref sq])), (gq, .inr (3, [.ref kq, .ref cq, .ref pq, .int (nI rs), .int ck, .int lt, .ref dq, .ref e0, .ref rq, .ref tq])), (kq, x_N G 16 (h_tw (va_cpy key (va_cpy dk rr (d_pl dk) 16 c6) 0 0 16) (16 + c6))), (cq, x_N G 16 (g_ct ctr)), (pq, x_Q G 32 (fun j => some (pa j))), (dq, .inr (1, [.ref d1, .ref d2, .ref d3])), (d1, x_I G 8 u.1), (d2, x_I G 64 u.2), (d3, x_N G 32 (h_dg (va_cpy key (va_cpy dk rr (d_pl dk) 16 c6) 0 0 16) (16 + c6))), (e0, .inr (0, [.ref e1, .ref e2, .ref e3])), (e1, x_N G 176 k0), (e2, x_N G 16 s0), (e3, x_N G 16 v0), (rq, x_N G 1040 (va_cpy key (va_cpy dk rr (d_pl dk) 16 c6) 0 0 16)), (tq, x_N G 32 (h_tw (va_cpy key (va_cpy dk rr (d_pl dk) 16 c6) 0 0 16) (16 + c6))), (kd, .inr (2, [.ref bq, .int wr, .int tc])), (bq, x_N G 129 dk), (sq, x_N G 64 nsd)]) 18 B (x_rV (rest := []) E B (q_Ge_reseedWith G l gq kq cq pq dq e0 rq tq rs ck lt d1 d2 d3 Hf w0 go bq 129 (d_pl dk) c6 key ctr rr tt dk (by omega) (by omega) (by omega) (hk) (fun j hj => hd _ (by omega)) (hb) _) (x_pre B [1, 2, 3, 5, 6, 7, 8, 13, 14] rfl (by decide) (x_ro1 (x_ro_w B 16 rfl [1, 2, 3, 5, 6, 7, 8, 13, 14] rfl (by decide)))) 1 rfl k_Ge (gg_V wd_354 wd_355 wd_356 wd_35 wd_357) ⟨rfl, p_Ge_reseedWith⟩ rfl rfl ⟨Nat.le_of_ble_eq_true rfl, Nat.le_of_ble_eq_true rfl⟩ rfl hl.1 rfl (Nat.le_of_ble_eq_true rfl) d_Pd_load_28 ⟨Nat.le_of_ble_eq_true rfl, Nat.le_of_ble_eq_true rfl⟩) [1, 2, 3, 5, 6, 7, 8, 13, 14] [0, 4, 9, 10, 11, 12, 15, 16, 17] rfl rfl (fun _ => rfl) rfl (by decide) (fun _ => rfl) (fun _ => rfl) (fun _ => rfl) (by decide) (fun u28 H locs hw28 B => ?_)
    have B : xB G A s _ _ ([(h0, .inr (5, [.ref gq, .ref kd, .ref vq, .int (nI gc), .ref sq])), (gq, .inr (3, [.ref kq, .ref cq, .ref pq, .int (nI rs), .int ck, .int lt, .ref dq, .ref e0, .ref rq, .ref tq])), (kq, x_N G 16 (h_tw (va_cpy key (va_cpy dk rr (d_pl dk) 16 c6) 0 0 16) (16 + c6))), (cq, x_N G 16 (g_ct ctr)), (pq, x_Q G 32 (fun j => some (pa j))), (dq, .inr (1, [.ref d1, .ref d2, .ref d3])), (d1, x_I G 8 u28.1), (d2, x_I G 64 u28.2), (d3, x_N G 32 (h_dg (va_cpy key (va_cpy dk rr (d_pl dk) 16 c6) 0 0 16) (16 + c6))), (e0, .inr (0, [.ref e1, .ref e2, .ref e3])), (e1, x_N G 176 k0), (e2, x_N G 16 s0), (e3, x_N G 16 v0), (rq, x_N G 1040 (va_cpy key (va_cpy dk rr (d_pl dk) 16 c6) 0 0 16)), (tq, x_N G 32 (h_tw (va_cpy key (va_cpy dk rr (d_pl dk) 16 c6) 0 0 16) (16 + c6))), (kd, .inr (2, [.ref bq, .int wr, .int tc])), (bq, x_N G 129 dk), (sq, x_N G 64 nsd)] ++ x_pl G pa ba cap len pb) := B
    refine lv_aload_n E.1 E.2.1 d_Pd_load_31 rfl (lv_at hl 1 rfl) ?_
    refine x_ciP (X' := fun u => [(h0, .inr (5, [.ref gq, .ref kd, .ref vq, .int (nI 0), .ref sq])), (gq, .inr (3, [.ref kq, .ref cq, .ref pq, .int (nI 0), .int (nI 0), .int (-1), .ref dq, .ref e0, .ref rq, .ref tq])), (kq, x_N G 16 (fun _ => 0)), (cq, x_N G 16 (fun _ => 0)), (pq, x_Q G 32 (fun j => some (pa j))), (dq, .inr (1, [.ref d1, .ref d2, .ref d3])), (d1, x_I G 8 u28.1), (d2, x_I G 64 u28.2), (d3, x_N G 32 (h_dg (va_cpy key (va_cpy dk rr (d_pl dk) 16 c6) 0 0 16) (16 + c6))), (e0, .inr (0, [.ref e1, .ref e2, .ref e3])), (e1, x_N G 176 (g_sch (h_tw (va_cpy key (va_cpy dk rr (d_pl dk) 16 c6) 0 0 16) (16 + c6)))), (e2, x_N G 16 u.1), (e3, x_N G 16 u.2), (rq, x_N G 1040 (va_cpy key (va_cpy dk rr (d_pl dk) 16 c6) 0 0 16)), (tq, x_N G 32 (h_tw (va_cpy key (va_cpy dk rr (d_pl dk) 16 c6) 0 0 16) (16 + c6))), (kd, .inr (2, [.ref bq, .int (wr + nI (d_n tc)), .int (d_te tc)])), (bq, x_N G 129 (d_dk dk (g_gen (g_sch (h_tw (va_cpy key (va_cpy dk rr (d_pl dk) 16 c6) 0 0 16) (16 + c6))) (g_ct ctr) nsd nb) (d_n tc))), (sq, x_N G 64 (g_gen (g_sch (h_tw (va_cpy key (va_cpy dk rr (d_pl dk) 16 c6) 0 0 16) (16 + c6))) (g_ct ctr) nsd nb))]) (pl1 := fun u => x_pl G pa ba cap (fun _ => 0) pb) (wr := [(dq, .inr (1, [.ref d1, .ref d2, .ref d3])), (d1, x_I G 8 u28.1), (d2, x_I G 64 u28.2), (d3, x_N G 32 (h_dg (va_cpy key (va_cpy dk rr (d_pl dk) 16 c6) 0 0 16) (16 + c6))), (rq, x_N G 1040 (va_cpy key (va_cpy dk rr (d_pl dk) 16 c6) 0 0 16)), (tq, x_N G 32 (h_tw (va_cpy key (va_cpy dk rr (d_pl dk) 16 c6) 0 0 16) (16 + c6)))]) B (x_rV (rest := []) E B (q_Pd_saveNewSeed_n G l h0 gq kd vq sq gc kq cq pq dq e0 rq tq rs ck lt e1 e2 e3 k0 s0 v0 bq wr tc nb (h_tw (va_cpy key (va_cpy dk rr (d_pl dk) 16 c6) 0 0 16) (16 + c6)) (g_ct ctr) dk nsd pa ba cap len pb (hnb) (fun j _ => h_tw_lt _ _ j) (g_ct_bt hb) (hd) (hok) _) (x_preP B [0, 1, 2, 3, 4, 9, 10, 11, 12, 15, 16, 17] rfl (by decide) x_ro0) 0 rfl k_Pd (gg_V wd_334 wd_336 wd_13 wd_34 wd_337) ⟨rfl, p_Pd_saveNewSeed⟩ rfl rfl ⟨Nat.le_of_ble_eq_true rfl, Nat.le_of_ble_eq_true rfl⟩ rfl hl.1 rfl (Nat.le_of_ble_eq_true rfl) d_Pd_load_32 ⟨Nat.le_of_ble_eq_true rfl, Nat.le_of_ble_eq_true rfl⟩) [0, 1, 2, 3, 4, 9, 10, 11, 12, 15, 16, 17] [5, 6, 7, 8, 13, 14] [6, 7, 8, 9, 10, 0, 1, 2, 3, 11, 12, 13, 14, 4, 5, 15, 16, 17] rfl rfl (by decide) (by decide) (by decide) (fun _ => rfl) (fun r32 u32 H locs hw32 B => ?_)
    subst hw32
    have B : xB G A s _ _ ([(h0, .inr (5, [.ref gq, .ref kd, .ref vq, .int (nI 0), .ref sq])), (gq, .inr (3, [.ref kq, .ref cq, .ref pq, .int (nI 0), .int (nI 0), .int (-1), .ref dq, .ref e0, .ref rq, .ref tq])), (kq, x_N G 16 (fun _ => 0)), (cq, x_N G 16 (fun _ => 0)), (pq, x_Q G 32 (fun j => some (pa j))), (dq, .inr (1, [.ref d1, .ref d2, .ref d3])), (d1, x_I G 8 u28.1), (d2, x_I G 64 u28.2), (d3, x_N G 32 (h_dg (va_cpy key (va_cpy dk rr (d_pl dk) 16 c6) 0 0 16) (16 + c6))), (e0, .inr (0, [.ref e1, .ref e2, .ref e3])), (e1, x_N G 176 (g_sch (h_tw (va_cpy key (va_cpy dk rr (d_pl dk) 16 c6) 0 0 16) (16 + c6)))), (e2, x_N G 16 u32.1), (e3, x_N G 16 u32.2), (rq, x_N G 1040 (va_cpy key (va_cpy dk rr (d_pl dk) 16 c6) 0 0 16)), (tq, x_N G 32 (h_tw (va_cpy key (va_cpy dk rr (d_pl dk) 16 c6) 0 0 16) (16 + c6))), (kd, .inr (2, [.ref bq, .int (wr + nI (d_n tc)), .int (d_te tc)])), (bq, x_N G 129 (d_dk dk (g_gen (g_sch (h_tw (va_cpy key (va_cpy dk rr (d_pl dk) 16 c6) 0 0 16) (16 + c6))) (g_ct ctr) nsd nb) (d_n tc))), (sq, x_N G 64 (g_gen (g_sch (h_tw (va_cpy key (va_cpy dk rr (d_pl dk) 16 c6) 0 0 16) (16 + c6))) (g_ct ctr) nsd nb))] ++ x_pl G pa ba cap (fun _ => 0) pb) := B
    exact hret _ (u28.1, u28.2, u32.1, u32.2) _ _ _ _ B (rfl) d_Pd_load_35
  · exfalso; omega
set_option maxHeartbeats 4000000 in
set_option maxRecDepth 100000 in
theorem q_Pd_spoil_n (G : xG) (l : Launch) (h0 gq kd vq sq gc : Nat) (bq : Nat) (wr tc : Int32) (x y : Int32) (dk : Nat → Nat) (hv : ¬ (¬ x < 0 ∧ ¬ nI 129 ≤ x ∧ c_by y = 1)) : xMr G l y_Pd_spoil c_Pd_spoil 3 .boolean ({ frames := 1, cells := 0, slots := 0, locals := 20 }) [.ref h0, .int x, .int y] [] [(h0, .inr (5, [.ref gq, .ref kd, .ref vq, .int (nI gc), .ref sq])), (kd, .inr (2, [.ref bq, .int wr, .int tc])), (bq, x_N G 129 dk)] (nI 0) := by
  refine xMrz.by r_Pd (by decide +kernel) (Nat.le_of_ble_eq_true rfl) rfl ?_
  intro p e s m args below meth c A ls Q E B hro hl hret
  have hl : lv_has ls 3 [(0, .ref h0), (1, .int x), (2, .int y)] := hl
  refine lv_iload_n E.1 E.2.1 d_Pd_spoil_0 rfl (lv_at hl 1 rfl) ?_
  refine lv_if_lt (tgt := 23) E.1 E.2.1 d_Pd_spoil_1 (by decide) (fun h1 => ?_) (fun h1 => ?_)
  · refine lv_iconst (v := nI 0) E.1 E.2.1 d_Pd_spoil_23 (by decide) ?_
    exact hret _ _ _ (rfl) rfl d_Pd_spoil_24
  · refine lv_iload_n E.1 E.2.1 d_Pd_spoil_4 rfl (lv_at hl 1 rfl) ?_
    refine lv_aload_n E.1 E.2.1 d_Pd_spoil_5 rfl (lv_at hl 0 rfl) ?_
    refine x_get E B 0 rfl k_Pd 1 (by decide) wd_166 rfl d_Pd_spoil_6 ?_
    refine x_get E B 1 rfl k_Dk 0 (by decide) wd_153 rfl d_Pd_spoil_9 ?_
    refine x_alen E B 2 rfl d_Pd_spoil_12 ?_
    refine lv_icmp_ge (tgt := 23) E.1 E.2.1 d_Pd_spoil_13 (by decide) (fun h2 => ?_) (fun h2 => ?_)
    · refine lv_iconst (v := nI 0) E.1 E.2.1 d_Pd_spoil_23 (by decide) ?_
      exact hret _ _ _ (rfl) rfl d_Pd_spoil_24
    · refine lv_iload_n E.1 E.2.1 d_Pd_spoil_16 rfl (lv_at hl 2 rfl) ?_
      refine x_cf (x_rS (rest := []) E (q_Pd_isByte l y ) x_pf (gg_S wd_201 wd_202 wd_34 wd_203) p_Pd_isByte rfl rfl ⟨Nat.le_of_ble_eq_true rfl, Nat.le_of_ble_eq_true rfl⟩ rfl hl.1 rfl (Nat.le_of_ble_eq_true rfl) d_Pd_spoil_17 ⟨Nat.le_of_ble_eq_true rfl, Nat.le_of_ble_eq_true rfl⟩) ?_
      refine x_ifn (tgt := 25) E d_Pd_spoil_20 (by decide) (by have := c_by_le y; omega) (fun h3 => ?_) (fun h3 => ?_)
      · exfalso; have := c_by_le y; exact hv ⟨h1, h2, by omega⟩
      · refine lv_iconst (v := nI 0) E.1 E.2.1 d_Pd_spoil_23 (by decide) ?_
        exact hret _ _ _ (rfl) rfl d_Pd_spoil_24
set_option maxHeartbeats 4000000 in
set_option maxRecDepth 100000 in
theorem q_Pd_spoil_y (G : xG) (l : Launch) (h0 gq kd vq sq gc : Nat) (bq : Nat) (wr tc : Int32) (i b : Nat) (dk : Nat → Nat) (hi : i < 129) (hb : b < 256) : xMi G l y_Pd_spoil c_Pd_spoil 3 .boolean ({ frames := 1, cells := 0, slots := 0, locals := 20 }) [.ref h0, .int (nI i), .int (nI b)] [] [(h0, .inr (5, [.ref gq, .ref kd, .ref vq, .int (nI gc), .ref sq])), (kd, .inr (2, [.ref bq, .int wr, .int tc])), (bq, x_N G 129 dk)] Unit (fun r _ => r = nI 1) (fun u => [(h0, .inr (5, [.ref gq, .ref kd, .ref vq, .int (nI gc), .ref sq])), (kd, .inr (2, [.ref bq, .int wr, .int tc])), (bq, x_N G 129 (va_up dk i b))]) 0 0 := by
  refine xMz.by r_Pd (by decide +kernel) (Nat.le_of_ble_eq_true rfl) rfl ?_
  intro p e s m args below meth c A ls Q E B hro hl hret
  have hl : lv_has ls 3 [(0, .ref h0), (1, .int (nI i)), (2, .int (nI b))] := hl
  refine lv_iload_n E.1 E.2.1 d_Pd_spoil_0 rfl (lv_at hl 1 rfl) ?_
  refine lv_if_lt (tgt := 23) E.1 E.2.1 d_Pd_spoil_1 (by decide) (fun h1 => ?_) (fun h1 => ?_)
  · exfalso; exact nI_pos (by omega) h1
  · refine lv_iload_n E.1 E.2.1 d_Pd_spoil_4 rfl (lv_at hl 1 rfl) ?_
    refine lv_aload_n E.1 E.2.1 d_Pd_spoil_5 rfl (lv_at hl 0 rfl) ?_
    refine x_get E B 0 rfl k_Pd 1 (by decide) wd_166 rfl d_Pd_spoil_6 ?_
    refine x_get E B 1 rfl k_Dk 0 (by decide) wd_153 rfl d_Pd_spoil_9 ?_
    refine x_alen E B 2 rfl d_Pd_spoil_12 ?_
    refine x_ge (tgt := 23) E d_Pd_spoil_13 (by decide) (by omega) (by omega) (fun c2 => ?_) (fun c2 => ?_)
    · exfalso; omega
    · refine lv_iload_n E.1 E.2.1 d_Pd_spoil_16 rfl (lv_at hl 2 rfl) ?_
      refine x_cf (x_rS (rest := []) E (q_Pd_isByte l (nI b) ) x_pf (gg_S wd_201 wd_202 wd_34 wd_203) p_Pd_isByte rfl rfl ⟨Nat.le_of_ble_eq_true rfl, Nat.le_of_ble_eq_true rfl⟩ rfl hl.1 rfl (Nat.le_of_ble_eq_true rfl) d_Pd_spoil_17 ⟨Nat.le_of_ble_eq_true rfl, Nat.le_of_ble_eq_true rfl⟩) ?_
      refine x_top (show nI (c_by (nI b)) = nI 1 from congrArg nI (by exact c_by_n hb)) ?_
      refine x_ifn (tgt := 25) E d_Pd_spoil_20 (by decide) (by omega) (fun c3 => ?_) (fun c3 => ?_)
      · refine lv_aload_n E.1 E.2.1 d_Pd_spoil_25 rfl (lv_at hl 0 rfl) ?_
        refine x_get E B 0 rfl k_Pd 1 (by decide) wd_166 rfl d_Pd_spoil_26 ?_
        refine x_get E B 1 rfl k_Dk 0 (by decide) wd_153 rfl d_Pd_spoil_29 ?_
        refine lv_iload_n E.1 E.2.1 d_Pd_spoil_32 rfl (lv_at hl 1 rfl) ?_
        refine lv_iload_n E.1 E.2.1 d_Pd_spoil_33 rfl (lv_at hl 2 rfl) ?_
        refine x_astN E B 2 rfl (i := i) (v := b) (by omega) (by decide) d_Pd_spoil_34 (fun H locs B => ?_)
        have B : xB G A s _ _ ([(h0, .inr (5, [.ref gq, .ref kd, .ref vq, .int (nI gc), .ref sq])), (kd, .inr (2, [.ref bq, .int wr, .int tc])), (bq, x_N G 129 (va_up dk i b))]) := B
        refine lv_iconst (v := nI 1) E.1 E.2.1 d_Pd_spoil_35 (by decide) ?_
        exact hret _ () _ _ _ _ B (rfl) rfl d_Pd_spoil_36
      · exfalso; omega
set_option maxHeartbeats 4000000 in
set_option maxRecDepth 100000 in
theorem q_Pd_about_0 (G : xG) (l : Launch) (h0 gq kd vq sq gc : Nat) (kq cq pq dq e0 rq tq rs : Nat) (ck lt : Int32)  : xMr G l y_Pd_about c_Pd_about 2 .int ({ frames := 1, cells := 0, slots := 0, locals := 21 }) [.ref h0, .int (nI 0)] [] [(h0, .inr (5, [.ref gq, .ref kd, .ref vq, .int (nI gc), .ref sq])), (gq, .inr (3, [.ref kq, .ref cq, .ref pq, .int (nI rs), .int ck, .int lt, .ref dq, .ref e0, .ref rq, .ref tq]))] (nI rs) := by
  refine xMr.by r_Pd (by decide +kernel) (Nat.le_of_ble_eq_true rfl) rfl ?_
  intro p e s m args below meth c A ls Q E B hro hl hret
  have hl : lv_has ls 2 [(0, .ref h0), (1, .int (nI 0))] := hl
  refine lv_iload_n E.1 E.2.1 d_Pd_about_0 rfl (lv_at hl 1 rfl) ?_
  refine lv_tableIn (tgt := 40) (off := 39) E.1 E.2.1 d_Pd_about_1 (by decide) (by decide) (by decide) (by decide) ?_
  refine lv_aload_n E.1 E.2.1 d_Pd_about_40 rfl (lv_at hl 0 rfl) ?_
  refine x_get E B 0 rfl k_Pd 0 (by decide) wd_165 rfl d_Pd_about_41 ?_
  refine x_get E B 1 rfl k_Ge 3 (by decide) wd_116 rfl d_Pd_about_44 ?_
  exact hret _ _ _ (rfl) d_Pd_about_47
set_option maxHeartbeats 4000000 in
set_option maxRecDepth 100000 in
theorem q_Pd_about_1 (G : xG) (l : Launch) (h0 gq kd vq sq gc : Nat) (kq cq pq dq e0 rq tq rs : Nat) (ck lt : Int32)  : xMr G l y_Pd_about c_Pd_about 2 .int ({ frames := 1, cells := 0, slots := 0, locals := 21 }) [.ref h0, .int (nI 1)] [] [(h0, .inr (5, [.ref gq, .ref kd, .ref vq, .int (nI gc), .ref sq])), (gq, .inr (3, [.ref kq, .ref cq, .ref pq, .int (nI rs), .int ck, .int lt, .ref dq, .ref e0, .ref rq, .ref tq]))] ck := by
  refine xMr.by r_Pd (by decide +kernel) (Nat.le_of_ble_eq_true rfl) rfl ?_
  intro p e s m args below meth c A ls Q E B hro hl hret
  have hl : lv_has ls 2 [(0, .ref h0), (1, .int (nI 1))] := hl
  refine lv_iload_n E.1 E.2.1 d_Pd_about_0 rfl (lv_at hl 1 rfl) ?_
  refine lv_tableIn (tgt := 48) (off := 47) E.1 E.2.1 d_Pd_about_1 (by decide) (by decide) (by decide) (by decide) ?_
  refine lv_aload_n E.1 E.2.1 d_Pd_about_48 rfl (lv_at hl 0 rfl) ?_
  refine x_get E B 0 rfl k_Pd 0 (by decide) wd_165 rfl d_Pd_about_49 ?_
  refine x_get E B 1 rfl k_Ge 4 (by decide) wd_118 rfl d_Pd_about_52 ?_
  exact hret _ _ _ (rfl) d_Pd_about_55
set_option maxHeartbeats 4000000 in
set_option maxRecDepth 100000 in
theorem q_Pd_about_2 (G : xG) (l : Launch) (h0 gq kd vq sq gc : Nat) (kq cq pq dq e0 rq tq rs : Nat) (ck lt : Int32)  : xMr G l y_Pd_about c_Pd_about 2 .int ({ frames := 1, cells := 0, slots := 0, locals := 21 }) [.ref h0, .int (nI 2)] [] [(h0, .inr (5, [.ref gq, .ref kd, .ref vq, .int (nI gc), .ref sq])), (gq, .inr (3, [.ref kq, .ref cq, .ref pq, .int (nI rs), .int ck, .int lt, .ref dq, .ref e0, .ref rq, .ref tq]))] lt := by
  refine xMr.by r_Pd (by decide +kernel) (Nat.le_of_ble_eq_true rfl) rfl ?_
  intro p e s m args below meth c A ls Q E B hro hl hret
  have hl : lv_has ls 2 [(0, .ref h0), (1, .int (nI 2))] := hl
  refine lv_iload_n E.1 E.2.1 d_Pd_about_0 rfl (lv_at hl 1 rfl) ?_
  refine lv_tableIn (tgt := 56) (off := 55) E.1 E.2.1 d_Pd_about_1 (by decide) (by decide) (by decide) (by decide) ?_
  refine lv_aload_n E.1 E.2.1 d_Pd_about_56 rfl (lv_at hl 0 rfl) ?_
  refine x_get E B 0 rfl k_Pd 0 (by decide) wd_165 rfl d_Pd_about_57 ?_
  refine x_get E B 1 rfl k_Ge 5 (by decide) wd_120 rfl d_Pd_about_60 ?_
  exact hret _ _ _ (rfl) d_Pd_about_63
set_option maxHeartbeats 4000000 in
set_option maxRecDepth 100000 in
theorem q_Pd_about_3 (G : xG) (l : Launch) (h0 gq kd vq sq gc : Nat) (bq : Nat) (wr tc : Int32)  : xMr G l y_Pd_about c_Pd_about 2 .int ({ frames := 1, cells := 0, slots := 0, locals := 21 }) [.ref h0, .int (nI 3)] [] [(h0, .inr (5, [.ref gq, .ref kd, .ref vq, .int (nI gc), .ref sq])), (kd, .inr (2, [.ref bq, .int wr, .int tc]))] tc := by
  refine xMr.by r_Pd (by decide +kernel) (Nat.le_of_ble_eq_true rfl) rfl ?_
  intro p e s m args below meth c A ls Q E B hro hl hret
  have hl : lv_has ls 2 [(0, .ref h0), (1, .int (nI 3))] := hl
  refine lv_iload_n E.1 E.2.1 d_Pd_about_0 rfl (lv_at hl 1 rfl) ?_
  refine lv_tableIn (tgt := 64) (off := 63) E.1 E.2.1 d_Pd_about_1 (by decide) (by decide) (by decide) (by decide) ?_
  refine lv_aload_n E.1 E.2.1 d_Pd_about_64 rfl (lv_at hl 0 rfl) ?_
  refine x_get E B 0 rfl k_Pd 1 (by decide) wd_166 rfl d_Pd_about_65 ?_
  refine x_get E B 1 rfl k_Dk 2 (by decide) wd_157 rfl d_Pd_about_68 ?_
  exact hret _ _ _ (rfl) d_Pd_about_71
set_option maxHeartbeats 4000000 in
set_option maxRecDepth 100000 in
theorem q_Pd_about_4 (G : xG) (l : Launch) (h0 gq kd vq sq gc : Nat) (bq : Nat) (wr tc : Int32)  : xMr G l y_Pd_about c_Pd_about 2 .int ({ frames := 1, cells := 0, slots := 0, locals := 21 }) [.ref h0, .int (nI 4)] [] [(h0, .inr (5, [.ref gq, .ref kd, .ref vq, .int (nI gc), .ref sq])), (kd, .inr (2, [.ref bq, .int wr, .int tc]))] wr := by
  refine xMr.by r_Pd (by decide +kernel) (Nat.le_of_ble_eq_true rfl) rfl ?_
  intro p e s m args below meth c A ls Q E B hro hl hret
  have hl : lv_has ls 2 [(0, .ref h0), (1, .int (nI 4))] := hl
  refine lv_iload_n E.1 E.2.1 d_Pd_about_0 rfl (lv_at hl 1 rfl) ?_
  refine lv_tableIn (tgt := 72) (off := 71) E.1 E.2.1 d_Pd_about_1 (by decide) (by decide) (by decide) (by decide) ?_
  refine lv_aload_n E.1 E.2.1 d_Pd_about_72 rfl (lv_at hl 0 rfl) ?_
  refine x_get E B 0 rfl k_Pd 1 (by decide) wd_166 rfl d_Pd_about_73 ?_
  refine x_get E B 1 rfl k_Dk 1 (by decide) wd_155 rfl d_Pd_about_76 ?_
  exact hret _ _ _ (rfl) d_Pd_about_79
set_option maxHeartbeats 4000000 in
set_option maxRecDepth 100000 in
theorem q_Pd_about_5 (G : xG) (l : Launch) (h0 gq kd vq sq gc : Nat) (kq cq pq dq e0 rq tq rs : Nat) (ck lt : Int32) (ctr : Nat → Nat) (hb : g_bt 16 ctr) : xMr G l y_Pd_about c_Pd_about 2 .int ({ frames := 1, cells := 0, slots := 0, locals := 21 }) [.ref h0, .int (nI 5)] [] [(h0, .inr (5, [.ref gq, .ref kd, .ref vq, .int (nI gc), .ref sq])), (gq, .inr (3, [.ref kq, .ref cq, .ref pq, .int (nI rs), .int ck, .int lt, .ref dq, .ref e0, .ref rq, .ref tq])), (cq, x_N G 16 ctr)] (nI (g_sd ctr)) := by
  refine xMr.by r_Pd (by decide +kernel) (Nat.le_of_ble_eq_true rfl) rfl ?_
  intro p e s m args below meth c A ls Q E B hro hl hret
  have hl : lv_has ls 2 [(0, .ref h0), (1, .int (nI 5))] := hl
  refine lv_iload_n E.1 E.2.1 d_Pd_about_0 rfl (lv_at hl 1 rfl) ?_
  refine lv_tableIn (tgt := 80) (off := 79) E.1 E.2.1 d_Pd_about_1 (by decide) (by decide) (by decide) (by decide) ?_
  refine lv_aload_n E.1 E.2.1 d_Pd_about_80 rfl (lv_at hl 0 rfl) ?_
  refine x_get E B 0 rfl k_Pd 0 (by decide) wd_165 rfl d_Pd_about_81 ?_
  refine x_cf (x_rV (rest := []) E B (q_Ge_isSeeded G l gq kq cq pq dq e0 rq tq rs ck lt ctr (hb) _) (x_pre B [1, 2] rfl (by decide) x_ro0) 1 rfl k_Ge (gg_V wd_285 wd_286 wd_287 wd_35 wd_288) ⟨rfl, p_Ge_isSeeded⟩ rfl rfl ⟨Nat.le_of_ble_eq_true rfl, Nat.le_of_ble_eq_true rfl⟩ rfl hl.1 rfl (Nat.le_of_ble_eq_true rfl) d_Pd_about_84 ⟨Nat.le_of_ble_eq_true rfl, Nat.le_of_ble_eq_true rfl⟩) ?_
  refine x_if0 (tgt := 94) E d_Pd_about_87 (by decide) (by have := g_sd_lt ctr; omega) (fun hz => ?_) (fun hz => ?_)
  · refine lv_iconst (v := nI 0) E.1 E.2.1 d_Pd_about_94 (by decide) ?_
    exact hret _ _ _ (by have := g_sd_lt ctr; exact congrArg nI (by omega)) d_Pd_about_95
  · refine lv_iconst (v := nI 1) E.1 E.2.1 d_Pd_about_90 (by decide) ?_
    refine lv_goto (tgt := 95) E.1 E.2.1 d_Pd_about_91 (by decide) ?_
    exact hret _ _ _ (by have := g_sd_lt ctr; exact congrArg nI (by omega)) d_Pd_about_95
set_option maxHeartbeats 4000000 in
set_option maxRecDepth 100000 in
theorem q_Pd_sizeOfPool_y (G : xG) (l : Launch) (h0 gq kd vq sq gc : Nat) (kq cq pq dq e0 rq tq rs : Nat) (ck lt : Int32) (j : Nat) (pa ba cap len : Nat → Nat) (pb : Nat → Nat → Nat) (hj : j < 32) : xMr G l y_Pd_sizeOfPool c_Pd_sizeOfPool 3 .int ({ frames := 1, cells := 0, slots := 0, locals := 20 }) [.ref h0, .int (nI (6 + j))] [] ([(h0, .inr (5, [.ref gq, .ref kd, .ref vq, .int (nI gc), .ref sq])), (gq, .inr (3, [.ref kq, .ref cq, .ref pq, .int (nI rs), .int ck, .int lt, .ref dq, .ref e0, .ref rq, .ref tq])), (pq, x_Q G 32 (fun j => some (pa j)))] ++ x_pl G pa ba cap len pb) (nI (len j)) := by
  refine xMr.by r_Pd (by decide +kernel) (Nat.le_of_ble_eq_true rfl) rfl ?_
  intro p e s m args below meth c A ls Q E B hro hl hret
  have hl : lv_has ls 3 [(0, .ref h0), (1, .int (nI (6 + j)))] := hl
  refine lv_iload_n E.1 E.2.1 d_Pd_sizeOfPool_0 rfl (lv_at hl 1 rfl) ?_
  refine lv_bipush (v := nI 6) E.1 E.2.1 d_Pd_sizeOfPool_1 (by decide) ?_
  refine x_isub E d_Pd_sizeOfPool_3 (by omega) ?_
  refine x_top (show nI ((6 + j) - 6) = nI j from congrArg nI (by omega)) ?_
  refine lv_istore_n (lv' := [(2, .int (nI j)), (0, .ref h0), (1, .int (nI (6 + j)))]) E.1 E.2.1 d_Pd_sizeOfPool_4 rfl hl (by decide) rfl (fun ls hl => ?_)
  refine lv_iload_n E.1 E.2.1 d_Pd_sizeOfPool_5 rfl (lv_at hl 0 rfl) ?_
  refine x_cf (x_rS (rest := []) E (q_Pd_isPool l (nI j) ) x_pf (gg_S wd_204 wd_205 wd_34 wd_206) p_Pd_isPool rfl rfl ⟨Nat.le_of_ble_eq_true rfl, Nat.le_of_ble_eq_true rfl⟩ rfl hl.1 rfl (Nat.le_of_ble_eq_true rfl) d_Pd_sizeOfPool_6 ⟨Nat.le_of_ble_eq_true rfl, Nat.le_of_ble_eq_true rfl⟩) ?_
  refine x_top (show nI (c_po (nI j)) = nI 1 from congrArg nI (by exact c_po_n hj)) ?_
  refine x_if0 (tgt := 27) E d_Pd_sizeOfPool_9 (by decide) (by omega) (fun c1 => ?_) (fun c1 => ?_)
  · exfalso; omega
  · refine lv_aload_n E.1 E.2.1 d_Pd_sizeOfPool_12 rfl (lv_at hl 1 rfl) ?_
    refine x_get E B 0 rfl k_Pd 0 (by decide) wd_165 rfl d_Pd_sizeOfPool_13 ?_
    refine x_get E B 1 rfl k_Ge 2 (by decide) wd_114 rfl d_Pd_sizeOfPool_16 ?_
    refine lv_iload_n E.1 E.2.1 d_Pd_sizeOfPool_19 rfl (lv_at hl 0 rfl) ?_
    refine x_aldp E B 2 rfl (i := j) (by omega) (by decide) d_Pd_sizeOfPool_20 ?_
    refine x_getL (N := 3) E rfl B (j := j) (by omega) wd_68 d_Pd_sizeOfPool_21 ?_
    refine lv_goto (tgt := 28) E.1 E.2.1 d_Pd_sizeOfPool_24 (by decide) ?_
    exact hret _ _ _ (rfl) d_Pd_sizeOfPool_28
set_option maxHeartbeats 4000000 in
set_option maxRecDepth 100000 in
theorem q_Pd_sizeOfPool_n (G : xG) (l : Launch) (h0 : Nat) (x : Int32) (hp : c_po (x - nI 6) = 0) : xMr G l y_Pd_sizeOfPool c_Pd_sizeOfPool 3 .int ({ frames := 1, cells := 0, slots := 0, locals := 20 }) [.ref h0, .int x] [] [] (-1) := by
  refine xMr.by r_Pd (by decide +kernel) (Nat.le_of_ble_eq_true rfl) rfl ?_
  intro p e s m args below meth c A ls Q E B hro hl hret
  have hl : lv_has ls 3 [(0, .ref h0), (1, .int x)] := hl
  refine lv_iload_n E.1 E.2.1 d_Pd_sizeOfPool_0 rfl (lv_at hl 1 rfl) ?_
  refine lv_bipush (v := nI 6) E.1 E.2.1 d_Pd_sizeOfPool_1 (by decide) ?_
  refine lv_isub E.1 E.2.1 d_Pd_sizeOfPool_3 ?_
  refine lv_istore_n (lv' := [(2, .int (x - (nI 6))), (0, .ref h0), (1, .int x)]) E.1 E.2.1 d_Pd_sizeOfPool_4 rfl hl (by decide) rfl (fun ls hl => ?_)
  refine lv_iload_n E.1 E.2.1 d_Pd_sizeOfPool_5 rfl (lv_at hl 0 rfl) ?_
  refine x_cf (x_rS (rest := []) E (q_Pd_isPool l (x - (nI 6)) ) x_pf (gg_S wd_204 wd_205 wd_34 wd_206) p_Pd_isPool rfl rfl ⟨Nat.le_of_ble_eq_true rfl, Nat.le_of_ble_eq_true rfl⟩ rfl hl.1 rfl (Nat.le_of_ble_eq_true rfl) d_Pd_sizeOfPool_6 ⟨Nat.le_of_ble_eq_true rfl, Nat.le_of_ble_eq_true rfl⟩) ?_
  refine x_top (show nI (c_po (x - (nI 6))) = nI 0 from congrArg nI (by exact hp)) ?_
  refine x_if0 (tgt := 27) E d_Pd_sizeOfPool_9 (by decide) (by omega) (fun c1 => ?_) (fun c1 => ?_)
  · refine lv_iconst (v := -1) E.1 E.2.1 d_Pd_sizeOfPool_27 (by decide) ?_
    exact hret _ _ _ (rfl) d_Pd_sizeOfPool_28
  · exfalso; omega
set_option maxHeartbeats 4000000 in
set_option maxRecDepth 100000 in
theorem q_Pd_about_y (G : xG) (l : Launch) (h0 gq kd vq sq gc : Nat) (kq cq pq dq e0 rq tq rs : Nat) (ck lt : Int32) (j : Nat) (pa ba cap len : Nat → Nat) (pb : Nat → Nat → Nat) (hj : j < 32) : xMr G l y_Pd_about c_Pd_about 2 .int ({ frames := 2, cells := 0, slots := 0, locals := 42 }) [.ref h0, .int (nI (6 + j))] [] ([(h0, .inr (5, [.ref gq, .ref kd, .ref vq, .int (nI gc), .ref sq])), (gq, .inr (3, [.ref kq, .ref cq, .ref pq, .int (nI rs), .int ck, .int lt, .ref dq, .ref e0, .ref rq, .ref tq])), (pq, x_Q G 32 (fun j => some (pa j)))] ++ x_pl G pa ba cap len pb) (nI (len j)) := by
  refine xMr.by r_Pd (by decide +kernel) (Nat.le_of_ble_eq_true rfl) rfl ?_
  intro p e s m args below meth c A ls Q E B hro hl hret
  have hl : lv_has ls 2 [(0, .ref h0), (1, .int (nI (6 + j)))] := hl
  refine lv_iload_n E.1 E.2.1 d_Pd_about_0 rfl (lv_at hl 1 rfl) ?_
  refine lv_tableOut (tgt := 96) E.1 E.2.1 d_Pd_about_1 (by rw [nI_toInt (by omega)]; omega) (by decide) ?_
  refine lv_aload_n E.1 E.2.1 d_Pd_about_96 rfl (lv_at hl 0 rfl) ?_
  refine lv_iload_n E.1 E.2.1 d_Pd_about_97 rfl (lv_at hl 1 rfl) ?_
  refine x_cf (x_rV (rest := []) E B (q_Pd_sizeOfPool_y G l h0 gq kd vq sq gc kq cq pq dq e0 rq tq rs ck lt j pa ba cap len pb (by omega) _) (x_preP B [0, 1, 2] rfl (by decide) x_ro0) 0 rfl k_Pd (gg_V wd_382 wd_384 wd_16 wd_34 wd_385) ⟨rfl, p_Pd_sizeOfPool⟩ rfl rfl ⟨Nat.le_of_ble_eq_true rfl, Nat.le_of_ble_eq_true rfl⟩ rfl hl.1 rfl (Nat.le_of_ble_eq_true rfl) d_Pd_about_98 ⟨Nat.le_of_ble_eq_true rfl, Nat.le_of_ble_eq_true rfl⟩) ?_
  exact hret _ _ _ (rfl) d_Pd_about_101
set_option maxHeartbeats 4000000 in
set_option maxRecDepth 100000 in
theorem q_Pd_about_n (G : xG) (l : Launch) (h0 gq kd vq sq gc : Nat) (x : Int32) (hs : x.toInt < 0 ∨ 5 < x.toInt) (hp : c_po (x - nI 6) = 0) : xMr G l y_Pd_about c_Pd_about 2 .int ({ frames := 2, cells := 0, slots := 0, locals := 42 }) [.ref h0, .int x] [] [(h0, .inr (5, [.ref gq, .ref kd, .ref vq, .int (nI gc), .ref sq]))] (-1) := by
  refine xMr.by r_Pd (by decide +kernel) (Nat.le_of_ble_eq_true rfl) rfl ?_
  intro p e s m args below meth c A ls Q E B hro hl hret
  have hl : lv_has ls 2 [(0, .ref h0), (1, .int x)] := hl
  refine lv_iload_n E.1 E.2.1 d_Pd_about_0 rfl (lv_at hl 1 rfl) ?_
  refine lv_tableOut (tgt := 96) E.1 E.2.1 d_Pd_about_1 (hs) (by decide) ?_
  refine lv_aload_n E.1 E.2.1 d_Pd_about_96 rfl (lv_at hl 0 rfl) ?_
  refine lv_iload_n E.1 E.2.1 d_Pd_about_97 rfl (lv_at hl 1 rfl) ?_
  refine x_cf (x_rV (rest := []) E B (q_Pd_sizeOfPool_n G l h0 x (hp) _) (x_pre B [] rfl (by decide) x_ro0) 0 rfl k_Pd (gg_V wd_382 wd_384 wd_16 wd_34 wd_385) ⟨rfl, p_Pd_sizeOfPool⟩ rfl rfl ⟨Nat.le_of_ble_eq_true rfl, Nat.le_of_ble_eq_true rfl⟩ rfl hl.1 rfl (Nat.le_of_ble_eq_true rfl) d_Pd_about_98 ⟨Nat.le_of_ble_eq_true rfl, Nat.le_of_ble_eq_true rfl⟩) ?_
  exact hret _ _ _ (rfl) d_Pd_about_101
set_option maxHeartbeats 4000000 in
set_option maxRecDepth 100000 in
theorem q_Pd_byteOf_0 (G : xG) (l : Launch) (h0 gq kd vq sq gc : Nat) (kq cq pq dq e0 rq tq rs : Nat) (ck lt : Int32) (x : Int32) (f : Nat → Nat)  : xMr G l y_Pd_byteOf c_Pd_byteOf 3 .int ({ frames := 1, cells := 0, slots := 0, locals := 22 }) [.ref h0, .int (nI 0), .int x] [] [(h0, .inr (5, [.ref gq, .ref kd, .ref vq, .int (nI gc), .ref sq])), (gq, .inr (3, [.ref kq, .ref cq, .ref pq, .int (nI rs), .int ck, .int lt, .ref dq, .ref e0, .ref rq, .ref tq])), (kq, x_N G 16 f)] (c_at f 16 x) := by
  refine xMr.by r_Pd (by decide +kernel) (Nat.le_of_ble_eq_true rfl) rfl ?_
  intro p e s m args below meth c A ls Q E B hro hl hret
  have hl : lv_has ls 3 [(0, .ref h0), (1, .int (nI 0)), (2, .int x)] := hl
  refine lv_iload_n E.1 E.2.1 d_Pd_byteOf_0 rfl (lv_at hl 1 rfl) ?_
  refine lv_tableIn (tgt := 28) (off := 27) E.1 E.2.1 d_Pd_byteOf_1 (by decide) (by decide) (by decide) (by decide) ?_
  refine lv_aload_n E.1 E.2.1 d_Pd_byteOf_28 rfl (lv_at hl 0 rfl) ?_
  refine x_get E B 0 rfl k_Pd 0 (by decide) wd_165 rfl d_Pd_byteOf_29 ?_
  refine x_get E B 1 rfl k_Ge 0 (by decide) wd_110 rfl d_Pd_byteOf_32 ?_
  refine lv_iload_n E.1 E.2.1 d_Pd_byteOf_35 rfl (lv_at hl 2 rfl) ?_
  refine lv_aload_n E.1 E.2.1 d_Pd_byteOf_36 rfl (lv_at hl 0 rfl) ?_
  refine x_get E B 0 rfl k_Pd 0 (by decide) wd_165 rfl d_Pd_byteOf_37 ?_
  refine x_get E B 1 rfl k_Ge 0 (by decide) wd_110 rfl d_Pd_byteOf_40 ?_
  refine x_alen E B 2 rfl d_Pd_byteOf_43 ?_
  refine x_cf (x_rS (rest := []) E (q_Pd_byteAt G l kq 16 16 x f (by omega) (by omega) _) (x_pre B [] rfl (by decide) (x_ro1 (x_ro_w B 2 rfl [] rfl (by decide)))) (gg_S wd_327 wd_328 wd_34 wd_329) p_Pd_byteAt rfl rfl ⟨Nat.le_of_ble_eq_true rfl, Nat.le_of_ble_eq_true rfl⟩ rfl hl.1 rfl (Nat.le_of_ble_eq_true rfl) d_Pd_byteOf_44 ⟨Nat.le_of_ble_eq_true rfl, Nat.le_of_ble_eq_true rfl⟩) ?_
  exact hret _ _ _ (rfl) d_Pd_byteOf_47
set_option maxHeartbeats 4000000 in
set_option maxRecDepth 100000 in
theorem q_Pd_byteOf_1 (G : xG) (l : Launch) (h0 gq kd vq sq gc : Nat) (kq cq pq dq e0 rq tq rs : Nat) (ck lt : Int32) (x : Int32) (f : Nat → Nat)  : xMr G l y_Pd_byteOf c_Pd_byteOf 3 .int ({ frames := 1, cells := 0, slots := 0, locals := 22 }) [.ref h0, .int (nI 1), .int x] [] [(h0, .inr (5, [.ref gq, .ref kd, .ref vq, .int (nI gc), .ref sq])), (gq, .inr (3, [.ref kq, .ref cq, .ref pq, .int (nI rs), .int ck, .int lt, .ref dq, .ref e0, .ref rq, .ref tq])), (cq, x_N G 16 f)] (c_at f 16 x) := by
  refine xMr.by r_Pd (by decide +kernel) (Nat.le_of_ble_eq_true rfl) rfl ?_
  intro p e s m args below meth c A ls Q E B hro hl hret
  have hl : lv_has ls 3 [(0, .ref h0), (1, .int (nI 1)), (2, .int x)] := hl
  refine lv_iload_n E.1 E.2.1 d_Pd_byteOf_0 rfl (lv_at hl 1 rfl) ?_
  refine lv_tableIn (tgt := 48) (off := 47) E.1 E.2.1 d_Pd_byteOf_1 (by decide) (by decide) (by decide) (by decide) ?_
  refine lv_aload_n E.1 E.2.1 d_Pd_byteOf_48 rfl (lv_at hl 0 rfl) ?_
  refine x_get E B 0 rfl k_Pd 0 (by decide) wd_165 rfl d_Pd_byteOf_49 ?_
  refine x_get E B 1 rfl k_Ge 1 (by decide) wd_112 rfl d_Pd_byteOf_52 ?_
  refine lv_iload_n E.1 E.2.1 d_Pd_byteOf_55 rfl (lv_at hl 2 rfl) ?_
  refine lv_aload_n E.1 E.2.1 d_Pd_byteOf_56 rfl (lv_at hl 0 rfl) ?_
  refine x_get E B 0 rfl k_Pd 0 (by decide) wd_165 rfl d_Pd_byteOf_57 ?_
  refine x_get E B 1 rfl k_Ge 1 (by decide) wd_112 rfl d_Pd_byteOf_60 ?_
  refine x_alen E B 2 rfl d_Pd_byteOf_63 ?_
  refine x_cf (x_rS (rest := []) E (q_Pd_byteAt G l cq 16 16 x f (by omega) (by omega) _) (x_pre B [] rfl (by decide) (x_ro1 (x_ro_w B 2 rfl [] rfl (by decide)))) (gg_S wd_327 wd_328 wd_34 wd_329) p_Pd_byteAt rfl rfl ⟨Nat.le_of_ble_eq_true rfl, Nat.le_of_ble_eq_true rfl⟩ rfl hl.1 rfl (Nat.le_of_ble_eq_true rfl) d_Pd_byteOf_64 ⟨Nat.le_of_ble_eq_true rfl, Nat.le_of_ble_eq_true rfl⟩) ?_
  exact hret _ _ _ (rfl) d_Pd_byteOf_67
set_option maxHeartbeats 4000000 in
set_option maxRecDepth 100000 in
theorem q_Pd_byteOf_2 (G : xG) (l : Launch) (h0 gq kd vq sq gc : Nat) (bq : Nat) (wr tc : Int32) (x : Int32) (f : Nat → Nat)  : xMr G l y_Pd_byteOf c_Pd_byteOf 3 .int ({ frames := 1, cells := 0, slots := 0, locals := 22 }) [.ref h0, .int (nI 2), .int x] [] [(h0, .inr (5, [.ref gq, .ref kd, .ref vq, .int (nI gc), .ref sq])), (kd, .inr (2, [.ref bq, .int wr, .int tc])), (bq, x_N G 129 f)] (c_at f 129 x) := by
  refine xMr.by r_Pd (by decide +kernel) (Nat.le_of_ble_eq_true rfl) rfl ?_
  intro p e s m args below meth c A ls Q E B hro hl hret
  have hl : lv_has ls 3 [(0, .ref h0), (1, .int (nI 2)), (2, .int x)] := hl
  refine lv_iload_n E.1 E.2.1 d_Pd_byteOf_0 rfl (lv_at hl 1 rfl) ?_
  refine lv_tableIn (tgt := 68) (off := 67) E.1 E.2.1 d_Pd_byteOf_1 (by decide) (by decide) (by decide) (by decide) ?_
  refine lv_aload_n E.1 E.2.1 d_Pd_byteOf_68 rfl (lv_at hl 0 rfl) ?_
  refine x_get E B 0 rfl k_Pd 1 (by decide) wd_166 rfl d_Pd_byteOf_69 ?_
  refine x_get E B 1 rfl k_Dk 0 (by decide) wd_153 rfl d_Pd_byteOf_72 ?_
  refine lv_iload_n E.1 E.2.1 d_Pd_byteOf_75 rfl (lv_at hl 2 rfl) ?_
  refine lv_aload_n E.1 E.2.1 d_Pd_byteOf_76 rfl (lv_at hl 0 rfl) ?_
  refine x_get E B 0 rfl k_Pd 1 (by decide) wd_166 rfl d_Pd_byteOf_77 ?_
  refine x_get E B 1 rfl k_Dk 0 (by decide) wd_153 rfl d_Pd_byteOf_80 ?_
  refine x_alen E B 2 rfl d_Pd_byteOf_83 ?_
  refine x_cf (x_rS (rest := []) E (q_Pd_byteAt G l bq 129 129 x f (by omega) (by omega) _) (x_pre B [] rfl (by decide) (x_ro1 (x_ro_w B 2 rfl [] rfl (by decide)))) (gg_S wd_327 wd_328 wd_34 wd_329) p_Pd_byteAt rfl rfl ⟨Nat.le_of_ble_eq_true rfl, Nat.le_of_ble_eq_true rfl⟩ rfl hl.1 rfl (Nat.le_of_ble_eq_true rfl) d_Pd_byteOf_84 ⟨Nat.le_of_ble_eq_true rfl, Nat.le_of_ble_eq_true rfl⟩) ?_
  exact hret _ _ _ (rfl) d_Pd_byteOf_87
set_option maxHeartbeats 4000000 in
set_option maxRecDepth 100000 in
theorem q_Pd_byteOfPool_y (G : xG) (l : Launch) (h0 gq kd vq sq gc : Nat) (kq cq pq dq e0 rq tq rs : Nat) (ck lt : Int32) (d1 d2 d3 : Nat) (Hf w0 : Nat → Int32) (go : Nat → Nat) (j i : Nat) (tt : Nat → Nat) (pa ba cap len : Nat → Nat) (pb : Nat → Nat → Nat) (hj : j < 32) (hi : i < 32) (hcap : cap j < 100000 ∧ len j ≤ cap j) (hpb : ∀ k, k < len j → pb j k < 256) : xMi G l y_Pd_byteOfPool c_Pd_byteOfPool 4 .int ({ frames := 5, cells := 0, slots := 0, locals := 130 }) [.ref h0, .int (nI (3 + j)), .int (nI i)] [] ([(h0, .inr (5, [.ref gq, .ref kd, .ref vq, .int (nI gc), .ref sq])), (gq, .inr (3, [.ref kq, .ref cq, .ref pq, .int (nI rs), .int ck, .int lt, .ref dq, .ref e0, .ref rq, .ref tq])), (pq, x_Q G 32 (fun j => some (pa j))), (dq, .inr (1, [.ref d1, .ref d2, .ref d3])), (d1, x_I G 8 Hf), (d2, x_I G 64 w0), (d3, x_N G 32 go), (tq, x_N G 32 tt)] ++ x_pl G pa ba cap len pb) ((Nat → Int32) × (Nat → Int32)) (fun r _ => r = nI (h_tw (pb j) (len j) i)) (fun u => [(h0, .inr (5, [.ref gq, .ref kd, .ref vq, .int (nI gc), .ref sq])), (gq, .inr (3, [.ref kq, .ref cq, .ref pq, .int (nI rs), .int ck, .int lt, .ref dq, .ref e0, .ref rq, .ref tq])), (pq, x_Q G 32 (fun j => some (pa j))), (dq, .inr (1, [.ref d1, .ref d2, .ref d3])), (d1, x_I G 8 u.1), (d2, x_I G 64 u.2), (d3, x_N G 32 (h_dg (pb j) (len j))), (tq, x_N G 32 (h_tw (pb j) (len j)))] ++ x_pl G pa ba cap len pb) 0 0 := by
  refine xMi.by r_Pd (by decide +kernel) (Nat.le_of_ble_eq_true rfl) rfl ?_
  intro p e s m args below meth c A ls Q E B hro hl hret
  have hl : lv_has ls 4 [(0, .ref h0), (1, .int (nI (3 + j))), (2, .int (nI i))] := hl
  refine lv_iload_n E.1 E.2.1 d_Pd_byteOfPool_0 rfl (lv_at hl 1 rfl) ?_
  refine lv_iconst (v := nI 3) E.1 E.2.1 d_Pd_byteOfPool_1 (by decide) ?_
  refine x_isub E d_Pd_byteOfPool_2 (by omega) ?_
  refine x_top (show nI ((3 + j) - 3) = nI j from congrArg nI (by omega)) ?_
  refine lv_istore_n (lv' := [(3, .int (nI j)), (0, .ref h0), (1, .int (nI (3 + j))), (2, .int (nI i))]) E.1 E.2.1 d_Pd_byteOfPool_3 rfl hl (by decide) rfl (fun ls hl => ?_)
  refine lv_iload_n E.1 E.2.1 d_Pd_byteOfPool_4 rfl (lv_at hl 0 rfl) ?_
  refine x_cf (x_rS (rest := []) E (q_Pd_isPool l (nI j) ) x_pf (gg_S wd_204 wd_205 wd_34 wd_206) p_Pd_isPool rfl rfl ⟨Nat.le_of_ble_eq_true rfl, Nat.le_of_ble_eq_true rfl⟩ rfl hl.1 rfl (Nat.le_of_ble_eq_true rfl) d_Pd_byteOfPool_5 ⟨Nat.le_of_ble_eq_true rfl, Nat.le_of_ble_eq_true rfl⟩) ?_
  refine x_top (show nI (c_po (nI j)) = nI 1 from congrArg nI (by exact c_po_n hj)) ?_
  refine x_if0 (tgt := 21) E d_Pd_byteOfPool_8 (by decide) (by omega) (fun c1 => ?_) (fun c1 => ?_)
  · exfalso; omega
  · refine lv_iload_n E.1 E.2.1 d_Pd_byteOfPool_11 rfl (lv_at hl 3 rfl) ?_
    refine lv_if_lt (tgt := 21) E.1 E.2.1 d_Pd_byteOfPool_12 (by decide) (fun hz => ?_) (fun hz => ?_)
    · exfalso; exact nI_pos (by omega) hz
    · refine lv_iload_n E.1 E.2.1 d_Pd_byteOfPool_15 rfl (lv_at hl 3 rfl) ?_
      refine lv_bipush (v := nI 32) E.1 E.2.1 d_Pd_byteOfPool_16 (by decide) ?_
      refine x_lt (tgt := 23) E d_Pd_byteOfPool_18 (by decide) (by omega) (by omega) (fun c3 => ?_) (fun c3 => ?_)
      · refine lv_aload_n E.1 E.2.1 d_Pd_byteOfPool_23 rfl (lv_at hl 1 rfl) ?_
        refine x_get E B 0 rfl k_Pd 0 (by decide) wd_165 rfl d_Pd_byteOfPool_24 ?_
        refine lv_iload_n E.1 E.2.1 d_Pd_byteOfPool_27 rfl (lv_at hl 0 rfl) ?_
        refine lv_iload_n E.1 E.2.1 d_Pd_byteOfPool_28 rfl (lv_at hl 3 rfl) ?_
        refine x_ciP (X' := fun u => [(h0, .inr (5, [.ref gq, .ref kd, .ref vq, .int (nI gc), .ref sq])), (gq, .inr (3, [.ref kq, .ref cq, .ref pq, .int (nI rs), .int ck, .int lt, .ref dq, .ref e0, .ref rq, .ref tq])), (pq, x_Q G 32 (fun j => some (pa j))), (dq, .inr (1, [.ref d1, .ref d2, .ref d3])), (d1, x_I G 8 u.1), (d2, x_I G 64 u.2), (d3, x_N G 32 (h_dg (pb j) (len j))), (tq, x_N G 32 (h_tw (pb j) (len j)))]) (pl1 := fun u => x_pl G pa ba cap len pb) (wr := [(h0, .inr (5, [.ref gq, .ref kd, .ref vq, .int (nI gc), .ref sq]))]) B (x_rV (rest := []) E B (q_Ge_byteOfTwice G l gq kq cq pq dq e0 rq tq rs ck lt d1 d2 d3 Hf w0 go j i tt pa ba cap len pb (by omega) (by omega) (hcap) (hpb) _) (x_preP B [1, 2, 3, 4, 5, 6, 7] rfl (by decide) x_ro0) 1 rfl k_Ge (gg_V wd_370 wd_371 wd_372 wd_35 wd_373) ⟨rfl, p_Ge_byteOfTwice⟩ rfl rfl ⟨Nat.le_of_ble_eq_true rfl, Nat.le_of_ble_eq_true rfl⟩ rfl hl.1 rfl (Nat.le_of_ble_eq_true rfl) d_Pd_byteOfPool_29 ⟨Nat.le_of_ble_eq_true rfl, Nat.le_of_ble_eq_true rfl⟩) [1, 2, 3, 4, 5, 6, 7] [0] [0, 1, 2, 3, 4, 5, 6, 7] rfl rfl (by decide) (by decide) (by decide) (fun _ => rfl) (fun r29 u29 H locs hw29 B => ?_)
        subst hw29
        have B : xB G A s _ _ ([(h0, .inr (5, [.ref gq, .ref kd, .ref vq, .int (nI gc), .ref sq])), (gq, .inr (3, [.ref kq, .ref cq, .ref pq, .int (nI rs), .int ck, .int lt, .ref dq, .ref e0, .ref rq, .ref tq])), (pq, x_Q G 32 (fun j => some (pa j))), (dq, .inr (1, [.ref d1, .ref d2, .ref d3])), (d1, x_I G 8 u29.1), (d2, x_I G 64 u29.2), (d3, x_N G 32 (h_dg (pb j) (len j))), (tq, x_N G 32 (h_tw (pb j) (len j)))] ++ x_pl G pa ba cap len pb) := B
        exact hret _ u29 _ _ _ _ B (rfl) d_Pd_byteOfPool_32
      · exfalso; omega
set_option maxHeartbeats 4000000 in
set_option maxRecDepth 100000 in
theorem q_Pd_byteOfPool_n (G : xG) (l : Launch) (h0 : Nat) (x y : Int32) (hv : ¬ (c_po (x - nI 3) = 1 ∧ ¬ y < 0 ∧ y < nI 32)) : xMr G l y_Pd_byteOfPool c_Pd_byteOfPool 4 .int ({ frames := 1, cells := 0, slots := 0, locals := 20 }) [.ref h0, .int x, .int y] [] [] (-1) := by
  refine xMr.by r_Pd (by decide +kernel) (Nat.le_of_ble_eq_true rfl) rfl ?_
  intro p e s m args below meth c A ls Q E B hro hl hret
  have hl : lv_has ls 4 [(0, .ref h0), (1, .int x), (2, .int y)] := hl
  refine lv_iload_n E.1 E.2.1 d_Pd_byteOfPool_0 rfl (lv_at hl 1 rfl) ?_
  refine lv_iconst (v := nI 3) E.1 E.2.1 d_Pd_byteOfPool_1 (by decide) ?_
  refine lv_isub E.1 E.2.1 d_Pd_byteOfPool_2 ?_
  refine lv_istore_n (lv' := [(3, .int (x - (nI 3))), (0, .ref h0), (1, .int x), (2, .int y)]) E.1 E.2.1 d_Pd_byteOfPool_3 rfl hl (by decide) rfl (fun ls hl => ?_)
  refine lv_iload_n E.1 E.2.1 d_Pd_byteOfPool_4 rfl (lv_at hl 0 rfl) ?_
  refine x_cf (x_rS (rest := []) E (q_Pd_isPool l (x - (nI 3)) ) x_pf (gg_S wd_204 wd_205 wd_34 wd_206) p_Pd_isPool rfl rfl ⟨Nat.le_of_ble_eq_true rfl, Nat.le_of_ble_eq_true rfl⟩ rfl hl.1 rfl (Nat.le_of_ble_eq_true rfl) d_Pd_byteOfPool_5 ⟨Nat.le_of_ble_eq_true rfl, Nat.le_of_ble_eq_true rfl⟩) ?_
  refine x_if0 (tgt := 21) E d_Pd_byteOfPool_8 (by decide) (by have := c_po_le (x - nI 3); omega) (fun h1 => ?_) (fun h1 => ?_)
  · refine lv_iconst (v := -1) E.1 E.2.1 d_Pd_byteOfPool_21 (by decide) ?_
    exact hret _ _ _ (rfl) d_Pd_byteOfPool_22
  · refine lv_iload_n E.1 E.2.1 d_Pd_byteOfPool_11 rfl (lv_at hl 3 rfl) ?_
    refine lv_if_lt (tgt := 21) E.1 E.2.1 d_Pd_byteOfPool_12 (by decide) (fun h2 => ?_) (fun h2 => ?_)
    · refine lv_iconst (v := -1) E.1 E.2.1 d_Pd_byteOfPool_21 (by decide) ?_
      exact hret _ _ _ (rfl) d_Pd_byteOfPool_22
    · refine lv_iload_n E.1 E.2.1 d_Pd_byteOfPool_15 rfl (lv_at hl 3 rfl) ?_
      refine lv_bipush (v := nI 32) E.1 E.2.1 d_Pd_byteOfPool_16 (by decide) ?_
      refine lv_icmp_lt (tgt := 23) E.1 E.2.1 d_Pd_byteOfPool_18 (by decide) (fun h3 => ?_) (fun h3 => ?_)
      · exfalso; have := c_po_le (x - nI 3); exact hv ⟨by omega, h2, h3⟩
      · refine lv_iconst (v := -1) E.1 E.2.1 d_Pd_byteOfPool_21 (by decide) ?_
        exact hret _ _ _ (rfl) d_Pd_byteOfPool_22
set_option maxHeartbeats 4000000 in
set_option maxRecDepth 100000 in
theorem q_Pd_byteOf_y (G : xG) (l : Launch) (h0 gq kd vq sq gc : Nat) (kq cq pq dq e0 rq tq rs : Nat) (ck lt : Int32) (d1 d2 d3 : Nat) (Hf w0 : Nat → Int32) (go : Nat → Nat) (j i : Nat) (tt : Nat → Nat) (pa ba cap len : Nat → Nat) (pb : Nat → Nat → Nat) (hj : j < 32) (hi : i < 32) (hcap : cap j < 100000 ∧ len j ≤ cap j) (hpb : ∀ k, k < len j → pb j k < 256) : xMi G l y_Pd_byteOf c_Pd_byteOf 3 .int ({ frames := 6, cells := 0, slots := 0, locals := 153 }) [.ref h0, .int (nI (3 + j)), .int (nI i)] [] ([(h0, .inr (5, [.ref gq, .ref kd, .ref vq, .int (nI gc), .ref sq])), (gq, .inr (3, [.ref kq, .ref cq, .ref pq, .int (nI rs), .int ck, .int lt, .ref dq, .ref e0, .ref rq, .ref tq])), (pq, x_Q G 32 (fun j => some (pa j))), (dq, .inr (1, [.ref d1, .ref d2, .ref d3])), (d1, x_I G 8 Hf), (d2, x_I G 64 w0), (d3, x_N G 32 go), (tq, x_N G 32 tt)] ++ x_pl G pa ba cap len pb) ((Nat → Int32) × (Nat → Int32)) (fun r _ => r = nI (h_tw (pb j) (len j) i)) (fun u => [(h0, .inr (5, [.ref gq, .ref kd, .ref vq, .int (nI gc), .ref sq])), (gq, .inr (3, [.ref kq, .ref cq, .ref pq, .int (nI rs), .int ck, .int lt, .ref dq, .ref e0, .ref rq, .ref tq])), (pq, x_Q G 32 (fun j => some (pa j))), (dq, .inr (1, [.ref d1, .ref d2, .ref d3])), (d1, x_I G 8 u.1), (d2, x_I G 64 u.2), (d3, x_N G 32 (h_dg (pb j) (len j))), (tq, x_N G 32 (h_tw (pb j) (len j)))] ++ x_pl G pa ba cap len pb) 0 0 := by
  refine xMi.by r_Pd (by decide +kernel) (Nat.le_of_ble_eq_true rfl) rfl ?_
  intro p e s m args below meth c A ls Q E B hro hl hret
  have hl : lv_has ls 3 [(0, .ref h0), (1, .int (nI (3 + j))), (2, .int (nI i))] := hl
  refine lv_iload_n E.1 E.2.1 d_Pd_byteOf_0 rfl (lv_at hl 1 rfl) ?_
  refine lv_tableOut (tgt := 88) E.1 E.2.1 d_Pd_byteOf_1 (by rw [nI_toInt (by omega)]; omega) (by decide) ?_
  refine lv_aload_n E.1 E.2.1 d_Pd_byteOf_88 rfl (lv_at hl 0 rfl) ?_
  refine lv_iload_n E.1 E.2.1 d_Pd_byteOf_89 rfl (lv_at hl 1 rfl) ?_
  refine lv_iload_n E.1 E.2.1 d_Pd_byteOf_90 rfl (lv_at hl 2 rfl) ?_
  refine x_ciP (X' := fun u => [(h0, .inr (5, [.ref gq, .ref kd, .ref vq, .int (nI gc), .ref sq])), (gq, .inr (3, [.ref kq, .ref cq, .ref pq, .int (nI rs), .int ck, .int lt, .ref dq, .ref e0, .ref rq, .ref tq])), (pq, x_Q G 32 (fun j => some (pa j))), (dq, .inr (1, [.ref d1, .ref d2, .ref d3])), (d1, x_I G 8 u.1), (d2, x_I G 64 u.2), (d3, x_N G 32 (h_dg (pb j) (len j))), (tq, x_N G 32 (h_tw (pb j) (len j)))]) (pl1 := fun u => x_pl G pa ba cap len pb) (wr := []) B (x_rV (rest := []) E B (q_Pd_byteOfPool_y G l h0 gq kd vq sq gc kq cq pq dq e0 rq tq rs ck lt d1 d2 d3 Hf w0 go j i tt pa ba cap len pb (hj) (hi) (hcap) (hpb) _) (x_preP B [0, 1, 2, 3, 4, 5, 6, 7] rfl (by decide) x_ro0) 0 rfl k_Pd (gg_V wd_366 wd_368 wd_15 wd_34 wd_369) ⟨rfl, p_Pd_byteOfPool⟩ rfl rfl ⟨Nat.le_of_ble_eq_true rfl, Nat.le_of_ble_eq_true rfl⟩ rfl hl.1 rfl (Nat.le_of_ble_eq_true rfl) d_Pd_byteOf_91 ⟨Nat.le_of_ble_eq_true rfl, Nat.le_of_ble_eq_true rfl⟩) [0, 1, 2, 3, 4, 5, 6, 7] [] [0, 1, 2, 3, 4, 5, 6, 7] rfl rfl (by decide) (by decide) (by decide) (fun _ => rfl) (fun r91 u91 H locs hw91 B => ?_)
  subst hw91
  have B : xB G A s _ _ ([(h0, .inr (5, [.ref gq, .ref kd, .ref vq, .int (nI gc), .ref sq])), (gq, .inr (3, [.ref kq, .ref cq, .ref pq, .int (nI rs), .int ck, .int lt, .ref dq, .ref e0, .ref rq, .ref tq])), (pq, x_Q G 32 (fun j => some (pa j))), (dq, .inr (1, [.ref d1, .ref d2, .ref d3])), (d1, x_I G 8 u91.1), (d2, x_I G 64 u91.2), (d3, x_N G 32 (h_dg (pb j) (len j))), (tq, x_N G 32 (h_tw (pb j) (len j)))] ++ x_pl G pa ba cap len pb) := B
  exact hret _ u91 _ _ _ _ B (rfl) d_Pd_byteOf_94
set_option maxHeartbeats 4000000 in
set_option maxRecDepth 100000 in
theorem q_Pd_byteOf_n (G : xG) (l : Launch) (h0 gq kd vq sq gc : Nat) (x y : Int32) (hs : x.toInt < 0 ∨ 2 < x.toInt) (hv : ¬ (c_po (x - nI 3) = 1 ∧ ¬ y < 0 ∧ y < nI 32)) : xMr G l y_Pd_byteOf c_Pd_byteOf 3 .int ({ frames := 2, cells := 0, slots := 0, locals := 43 }) [.ref h0, .int x, .int y] [] [(h0, .inr (5, [.ref gq, .ref kd, .ref vq, .int (nI gc), .ref sq]))] (-1) := by
  refine xMr.by r_Pd (by decide +kernel) (Nat.le_of_ble_eq_true rfl) rfl ?_
  intro p e s m args below meth c A ls Q E B hro hl hret
  have hl : lv_has ls 3 [(0, .ref h0), (1, .int x), (2, .int y)] := hl
  refine lv_iload_n E.1 E.2.1 d_Pd_byteOf_0 rfl (lv_at hl 1 rfl) ?_
  refine lv_tableOut (tgt := 88) E.1 E.2.1 d_Pd_byteOf_1 (hs) (by decide) ?_
  refine lv_aload_n E.1 E.2.1 d_Pd_byteOf_88 rfl (lv_at hl 0 rfl) ?_
  refine lv_iload_n E.1 E.2.1 d_Pd_byteOf_89 rfl (lv_at hl 1 rfl) ?_
  refine lv_iload_n E.1 E.2.1 d_Pd_byteOf_90 rfl (lv_at hl 2 rfl) ?_
  refine x_cf (x_rV (rest := []) E B (q_Pd_byteOfPool_n G l h0 x y (hv) _) (x_pre B [] rfl (by decide) x_ro0) 0 rfl k_Pd (gg_V wd_366 wd_368 wd_15 wd_34 wd_369) ⟨rfl, p_Pd_byteOfPool⟩ rfl rfl ⟨Nat.le_of_ble_eq_true rfl, Nat.le_of_ble_eq_true rfl⟩ rfl hl.1 rfl (Nat.le_of_ble_eq_true rfl) d_Pd_byteOf_91 ⟨Nat.le_of_ble_eq_true rfl, Nat.le_of_ble_eq_true rfl⟩) ?_
  exact hret _ _ _ (rfl) d_Pd_byteOf_94
end
