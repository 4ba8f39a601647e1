/-! shapes of the cells in the order in which they are made -/
abbrev SC : Type := Nat ⊕ (Nat × Nat)
def SHF : List SC := [.inl 11, .inl 7, .inr (1, 240), .inl 2, .inl 1, .inr (0, 3), .inr (0, 39), .inl 3, .inr (0, 240), .inl 10, .inr (0, 16), .inr (0, 64), .inr (0, 4), .inl 1, .inr (0, 3), .inr (0, 39), .inl 4, .inr (5, 4), .inr (0, 240), .inr (0, 240), .inr (0, 240), .inr (0, 240), .inr (0, 4), .inr (0, 6), .inr (0, 64), .inr (3, 2048), .inl 9, .inl 0, .inr (0, 4), .inr (0, 6), .inr (0, 6), .inr (0, 6), .inl 0, .inr (0, 4), .inr (0, 6), .inr (0, 6), .inr (0, 6), .inl 5, .inr (4, 40), .inr (0, 300), .inl 0, .inr (0, 4), .inr (0, 6), .inr (0, 6), .inr (0, 6), .inr (0, 300), .inl 0, .inr (0, 4), .inr (0, 6), .inr (0, 6), .inr (0, 6), .inl 0, .inr (0, 4), .inr (0, 6), .inr (0, 6), .inr (0, 6), .inl 0, .inr (0, 4), .inr (0, 6), .inr (0, 6), .inr (0, 6), .inl 0, .inr (0, 4), .inr (0, 6), .inr (0, 6), .inr (0, 6), .inl 0, .inr (0, 4), .inr (0, 6), .inr (0, 6), .inr (0, 6), .inl 0, .inr (0, 4), .inr (0, 6), .inr (0, 6), .inr (0, 6), .inl 0, .inr (0, 4), .inr (0, 6), .inr (0, 6), .inr (0, 6), .inl 0, .inr (0, 4), .inr (0, 6), .inr (0, 6), .inr (0, 6), .inl 0, .inr (0, 4), .inr (0, 6), .inr (0, 6), .inr (0, 6), .inl 0, .inr (0, 4), .inr (0, 6), .inr (0, 6), .inr (0, 6), .inl 0, .inr (0, 4), .inr (0, 6), .inr (0, 6), .inr (0, 6), .inl 0, .inr (0, 4), .inr (0, 6), .inr (0, 6), .inr (0, 6), .inl 0, .inr (0, 4), .inr (0, 6), .inr (0, 6), .inr (0, 6), .inl 0, .inr (0, 4), .inr (0, 6), .inr (0, 6), .inr (0, 6), .inl 0, .inr (0, 4), .inr (0, 6), .inr (0, 6), .inr (0, 6), .inl 0, .inr (0, 4), .inr (0, 6), .inr (0, 6), .inr (0, 6), .inl 0, .inr (0, 4), .inr (0, 6), .inr (0, 6), .inr (0, 6), .inl 0, .inr (0, 4), .inr (0, 6), .inr (0, 6), .inr (0, 6), .inl 0, .inr (0, 4), .inr (0, 6), .inr (0, 6), .inr (0, 6), .inl 0, .inr (0, 4), .inr (0, 6), .inr (0, 6), .inr (0, 6), .inl 0, .inr (0, 4), .inr (0, 6), .inr (0, 6), .inr (0, 6), .inl 0, .inr (0, 4), .inr (0, 6), .inr (0, 6), .inr (0, 6), .inl 0, .inr (0, 4), .inr (0, 6), .inr (0, 6), .inr (0, 6), .inl 0, .inr (0, 4), .inr (0, 6), .inr (0, 6), .inr (0, 6), .inl 0, .inr (0, 4), .inr (0, 6), .inr (0, 6), .inr (0, 6), .inl 0, .inr (0, 4), .inr (0, 6), .inr (0, 6), .inr (0, 6), .inl 0, .inr (0, 4), .inr (0, 6), .inr (0, 6), .inr (0, 6), .inl 0, .inr (0, 4), .inr (0, 6), .inr (0, 6), .inr (0, 6), .inl 0, .inr (0, 4), .inr (0, 6), .inr (0, 6), .inr (0, 6), .inl 0, .inr (0, 4), .inr (0, 6), .inr (0, 6), .inr (0, 6), .inl 0, .inr (0, 4), .inr (0, 6), .inr (0, 6), .inr (0, 6), .inl 0, .inr (0, 4), .inr (0, 6), .inr (0, 6), .inr (0, 6), .inl 0, .inr (0, 4), .inr (0, 6), .inr (0, 6), .inr (0, 6), .inl 0, .inr (0, 4), .inr (0, 6), .inr (0, 6), .inr (0, 6), .inl 0, .inr (0, 4), .inr (0, 6), .inr (0, 6), .inr (0, 6), .inl 0, .inr (0, 4), .inr (0, 6), .inr (0, 6), .inr (0, 6), .inl 0, .inr (0, 4), .inr (0, 6), .inr (0, 6), .inr (0, 6), .inl 0, .inr (0, 4), .inr (0, 6), .inr (0, 6), .inr (0, 6), .inl 0, .inr (0, 4), .inr (0, 6), .inr (0, 6), .inr (0, 6), .inl 0, .inr (0, 4), .inr (0, 6), .inr (0, 6), .inr (0, 6), .inl 6, .inr (0, 4), .inr (0, 100), .inl 8, .inr (0, 50), .inl 12, .inr (2, 240), .inr (2, 960), .inr (0, 4), .inr (0, 128), .inr (0, 3), .inr (0, 3), .inr (0, 18), .inr (0, 18), .inr (0, 18), .inr (0, 18), .inr (0, 240), .inr (0, 5), .inr (0, 211), .inr (0, 211), .inr (3, 8191), .inr (0, 8191), .inr (0, 8440), .inr (0, 217), .inr (0, 50), .inr (0, 200), .inr (0, 211), .inr (3, 1)]
def KM : Nat := 251
def DS : Nat → List Nat := fun ci => match ci with
  | 0 => [2, 2, 2, 2, 0, 0, 0, 0, 0, 0, 0, 0, 0]
  | 1 => [2, 2]
  | 2 => [2, 2]
  | 3 => [2, 2, 0]
  | 4 => [2, 2, 2, 2, 2, 0, 0, 0]
  | 5 => [2, 2, 2, 2, 0, 0, 0]
  | 6 => [2, 2, 2, 2, 2, 2, 0, 0, 0]
  | 7 => [2, 0, 0]
  | 8 => [2, 2, 2, 2, 0]
  | 9 => [2, 2]
  | 10 => [2, 2, 2, 2, 0, 0]
  | 11 => [2, 2, 2, 2, 2, 2, 2, 2, 2, 2, 2, 2, 0, 1]
  | 12 => [0, 2, 2, 2, 2, 3, 0, 0, 0, 0, 0, 0, 0, 0, 0, 2, 2, 0, 2, 2, 2, 2, 2, 2, 2, 2, 0, 0, 0, 0, 0, 0, 2, 2, 0, 0, 2, 2, 2, 0, 1, 0, 0, 2, 0, 0, 2, 0, 2, 2, 0]
  | _ => []
/-- the coded references that stay as the constructors made them: cell, then place -/
def fxR : List (Nat × List Nat) := [(0, [2, 4, 8, 10, 14, 17, 27, 28, 33, 38, 247, 250]), (1, [3]), (3, [2, 5]), (4, [6, 7]), (7, [2, 9]), (9, [2, 11, 12, 13]), (13, [15, 16]), (16, [18, 23, 24, 25, 26]), (17, [19, 20, 21, 22]), (26, [14, 17]), (37, [39, 40, 41, 46]), (38, [47, 52, 57, 62, 67, 72, 77, 82, 87, 92, 97, 102, 107, 112, 117, 122, 127, 132, 137, 142, 147, 152, 157, 162, 167, 172, 177, 182, 187, 192, 197, 202, 207, 212, 217, 222, 227, 232, 237, 242]), (246, [27, 14, 17, 28, 248, 249]), (249, [27, 14, 28, 251]), (251, [0, 253, 254, 255, 256, 0, 0, 0, 0, 0, 0, 0, 0, 0, 0, 1032, 1033, 0, 257, 258, 259, 260, 261, 262, 263, 264, 0, 0, 0, 0, 0, 0, 265, 266, 0, 0, 267, 268, 269, 0, 0, 0, 0, 270, 0, 0, 271, 0, 272, 273])]
def bedIds : List Nat := [27, 32, 40, 46, 51, 56, 61, 66, 71, 76, 81, 86, 91, 96, 101, 106, 111, 116, 121, 126, 131, 136, 141, 146, 151, 156, 161, 166, 171, 176, 181, 186, 191, 196, 201, 206, 211, 216, 221, 226, 231, 236, 241]
def exT : List (List Int32) := [[0, 3, 21], [1, 6, 6], [10, 25, 8, 4, 3, 0, 2, 15, 5], [0, 1, 0, 1, 0, 0, 0, 1, 0], [99, 99, 30, 9, 9, 3, 9, 40, 9], [2, 2, 0, 0, 1], [0, 1, 2, 3, 9]]
def stT : List (List Int32) := [[115, 98, 104], [99, 101, 108], [112, 99, 107], [110, 115, 118], [33, 40], [99, 118, 98, 112, 110, 116], [42, 47], [43, 45], [61, 60, 62], [114, 107, 109, 110, 103], [110, 111, 32, 115, 117, 99, 104, 32, 104, 111, 117, 115, 101, 44, 32, 111, 114, 32, 110, 111, 116, 104, 105, 110, 103, 32, 115, 117, 99, 104, 32, 111, 102, 32, 105, 116], [121], [99, 118, 98, 112, 110, 116], [99, 101, 108], [112, 99, 107], [110, 115, 118], [114, 107, 109, 110, 103]]
/-! the memory: by cell and place, words of 32 and of 64 bits -/
abbrev Mm : Type := (Nat → Nat → Int32) × (Nat → Nat → Int64)
def wR (h : Mm) (i : Nat) (f : Nat → Int32) : Mm := (fun a => if a = i then f else h.1 a, h.2)
def wRL (h : Mm) (i : Nat) (f : Nat → Int64) : Mm := (h.1, fun a => if a = i then f else h.2 a)
def wI (h : Mm) (i k : Nat) (v : Int32) : Mm := wR h i (upd (h.1 i) k v)
def wL (h : Mm) (i k : Nat) (v : Int64) : Mm := wRL h i (vp_updL (h.2 i) k v)
def cb (h g : Mm) : Mm := (fun a => if a < KM then h.1 a else g.1 a, fun a => if a < KM then h.2 a else g.2 a)
def cbs (b : Bool) (h o : Mm) : Mm := bif b then cb h o else cb o h
def b2i (b : Bool) : Int32 := if b then 1 else 0
abbrev inB (i : Int32) (n : Nat) : Prop := 0 ≤ i.toInt ∧ i.toInt < (n : Int)
theorem inB.vp {i : Int32} {n : Nat} (h : inB i n) : vp_in i n := vp_in_iff.mpr h
def rfN (al : Nat → Nat) (x : Int32) : Option Nat := if x = 0 then none else some (al (x.toNatClampNeg - 1))
def fdV (al : Nat → Nat) (h : Mm) (i k d : Nat) : Value := if d = 0 then .int (h.1 i k) else if d = 1 then .long (h.2 i k) else va_rf (rfN al (h.1 i k))
def fdL (al : Nat → Nat) (h : Mm) (i : Nat) (ds : List Nat) : List Value := ds.mapIdx (fun k d => fdV al h i k d)
def cnc (al : Nat → Nat) (cy : Nat → ClassId) (h : Mm) (i : Nat) (s : SC) : va_E := match s with
  | .inl ci => .inr (ci, fdL al h i (DS ci))
  | .inr (t, n) => .inl (cy t, n, if t = 3 then .inr (.inl (h.2 i)) else if t < 3 then .inl (h.1 i) else .inr (.inr (.inr (.inr (fun j => rfN al (h.1 i j))))))
def wdc (sh : List SC) (al : Nat → Nat) (cy : Nat → ClassId) (h : Mm) : va_W := sh.mapIdx (fun i s => (al i, cnc al cy h i s))
def fxv (id k : Nat) : Nat := if bedIds.contains id then id + 2 + k else ((fxR.lookup id).getD []).getD k 0
def isFx (id k : Nat) : Bool := match SHF[id]? with
  | some (.inl ci) => (DS ci)[k]? == some 2
  | some (.inr (t, n)) => decide (4 ≤ t) && decide (k < n)
  | none => false
def Fix (M : Mm) : Prop := ∀ id k, isFx id k = true → M.1 id k = Int32.ofNat (fxv id k)
/-! what is the same over the whole run: launch, addresses, classes and slots, array classes, what may change, the script's length and ints -/
abbrev WX : Type := Launch × (Nat → Nat) × va_G × (Nat → ClassId) × (Nat → Prop) × Nat × (Nat → Int32)
abbrev xl (X : WX) : Launch := X.1
abbrev xa (X : WX) : Nat → Nat := X.2.1
abbrev xD (X : WX) : va_G := X.2.2.1
abbrev xc (X : WX) : Nat → ClassId := X.2.2.2.1
abbrev xA (X : WX) : Nat → Prop := X.2.2.2.2.1
abbrev xn (X : WX) : Nat := X.2.2.2.2.2.1
abbrev xs (X : WX) : Nat → Int32 := X.2.2.2.2.2.2
def exn (X : WX) (id : Nat) : Nat := if id = 1000 then xn X else (exT.getD (id - 1001) []).length
def EX (id j : Nat) : Int32 := (exT.getD (id - 1001) []).getD j 0
def exv (X : WX) (id j : Nat) : Int32 := if id = 1000 then xs X j else EX id j
abbrev tyT (X : WX) : List (ClassId × FieldType) := [(xc X 0, .int), (xc X 1, .char), (xc X 2, .byte), (xc X 3, .long), (xc X 4, .object "MonsterCot$Bed"), (xc X 5, .array .int)]
def zT : List (String × String × Nat) := [("MonsterCot$Land", "FIRST", 1001), ("MonsterCot$Land", "MOST", 1002), ("MonsterCot$Land", "USUAL", 1003), ("MonsterCot$LandingText", "LOWEST", 1004), ("MonsterCot$LandingText", "HIGHEST", 1005), ("MonsterCot$Weeks", "DIGITS", 1006), ("MonsterCot$Watch", "TASTES", 1007)]
def sT : List (String × Nat × String × Nat) := [("MonsterCot$LandingText", 49, "sbh", 1020), ("MonsterCot$LandingText", 64, "cel", 1021), ("MonsterCot$LandingText", 66, "pck", 1022), ("MonsterCot$LandingText", 68, "nsv", 1023), ("MonsterCot$LawText", 41, "!(", 1024), ("MonsterCot$LawText", 95, "cvbpnt", 1025), ("MonsterCot$LawText", 93, "*/", 1026), ("MonsterCot$LawText", 88, "+-", 1027), ("MonsterCot$LawText", 57, "=<>", 1028), ("MonsterCot$Weeks", 46, "rkmng", 1029), ("MonsterCot", 158, "no such house, or nothing such of it", 1030), ("MonsterCotModel", 26, "y", 1031), ("MonsterCotModel", 32, "cvbpnt", 1032), ("MonsterCotModel", 248, "cel", 1033), ("MonsterCotModel", 254, "pck", 1034), ("MonsterCotModel", 256, "nsv", 1035), ("MonsterCotModel", 261, "rkmng", 1036)]
def nsT : List (String × Nat × MethodName × String) := [("MonsterCot", 9, ⟨"MonsterCot$Tape", "<init>", "()V"⟩, "MonsterCot"), ("MonsterCot$LandingText", 11, ⟨"MonsterCot$Land", "<init>", "()V"⟩, "MonsterCot"), ("MonsterCot", 41, ⟨"MonsterCot$Land", "<init>", "()V"⟩, "MonsterCot"), ("MonsterCot", 48, ⟨"MonsterCot$Laws", "<init>", "()V"⟩, "MonsterCot"), ("MonsterCot", 64, ⟨"MonsterCot$Bed", "<init>", "()V"⟩, "MonsterCot"), ("MonsterCot$Past", 21, ⟨"MonsterCot$Bed", "<init>", "()V"⟩, "MonsterCot"), ("MonsterCot$Land", 31, ⟨"MonsterCot", "at", "([II)I"⟩, "MonsterCot"), ("MonsterCot$Land", 42, ⟨"MonsterCot", "put", "([III)V"⟩, "MonsterCot"), ("MonsterCot$LandingText", 81, ⟨"MonsterCot", "at", "([II)I"⟩, "MonsterCot"), ("MonsterCot$LawText", 67, ⟨"MonsterCot", "put", "([III)V"⟩, "MonsterCot"), ("MonsterCot$Weeks", 55, ⟨"MonsterCot", "at", "([II)I"⟩, "MonsterCot"), ("MonsterCot$Weeks", 63, ⟨"MonsterCot", "put", "([III)V"⟩, "MonsterCot"), ("MonsterCot$Land", 49, ⟨"MonsterCot", "copy", "([I[I)V"⟩, "MonsterCot"), ("MonsterCot$Bed", 30, ⟨"MonsterCot", "put", "([III)V"⟩, "MonsterCot"), ("MonsterCot$Laws", 41, ⟨"MonsterCot", "copy", "([I[I)V"⟩, "MonsterCot"), ("MonsterCot$Laws", 46, ⟨"MonsterCot", "put", "([III)V"⟩, "MonsterCot"), ("MonsterCot$Ways", 38, ⟨"MonsterCot", "at", "([II)I"⟩, "MonsterCot"), ("MonsterCot$Bed", 76, ⟨"MonsterCot", "copy", "([I[I)V"⟩, "MonsterCot"), ("MonsterCot$Laws", 50, ⟨"MonsterCot", "within", "(III)I"⟩, "MonsterCot"), ("MonsterCot$Laws", 68, ⟨"MonsterCot", "at", "([II)I"⟩, "MonsterCot"), ("MonsterCot$Ways", 51, ⟨"MonsterCot", "heldCalm", "(I)I"⟩, "MonsterCot"), ("MonsterCot$Ways", 92, ⟨"MonsterCot", "put", "([III)V"⟩, "MonsterCot"), ("MonsterCot$Ways", 148, ⟨"MonsterCot", "lessen", "([II)V"⟩, "MonsterCot"), ("MonsterCot$Past", 56, ⟨"MonsterCot", "put", "([III)V"⟩, "MonsterCot"), ("MonsterCot$Past", 64, ⟨"MonsterCot", "at", "([II)I"⟩, "MonsterCot"), ("MonsterCot$Search", 48, ⟨"MonsterCot", "copy", "([I[I)V"⟩, "MonsterCot"), ("MonsterCot$Search", 79, ⟨"MonsterCot", "at", "([II)I"⟩, "MonsterCot"), ("MonsterCot$Search", 116, ⟨"MonsterCot", "heldCalm", "(I)I"⟩, "MonsterCot"), ("MonsterCot$Search", 126, ⟨"MonsterCot", "put", "([III)V"⟩, "MonsterCot"), ("MonsterCot$Watch", 34, ⟨"MonsterCot", "put", "([III)V"⟩, "MonsterCot"), ("MonsterCot$Watch", 49, ⟨"MonsterCot", "at", "([II)I"⟩, "MonsterCot"), ("MonsterCot$Watch", 63, ⟨"MonsterCot", "heldCalm", "(I)I"⟩, "MonsterCot"), ("MonsterCot$Past", 68, ⟨"MonsterCot", "copy", "([I[I)V"⟩, "MonsterCot")]
/-- the old cells that are read: the script, static arrays, String constants -/
def Ext (X : WX) (U : State) : Prop :=
  (∀ id, 1000 ≤ id → id < 1008 → va_T .int (xa X id) (exn X id) (fun j => .int (exv X id j)) (xA X) U U.heap) ∧
  (∀ q ∈ zT, va_Z q.1 q.2.1 "[I" (.ref (xa X q.2.2)) (xA X) U U.heap) ∧
  (∀ id, 1020 ≤ id → id < 1037 → va_O "java/lang/String" (xa X id) (xA X) U U.heap ∧ va_OF "java/lang/String" "coder" "B" (.int 0) (xa X id) (xA X) U U.heap ∧ va_OF "java/lang/String" "value" "[B" (.ref (xa X (id + 20))) (xa X id) (xA X) U U.heap ∧
    va_T .byte (xa X (id + 20)) (stT.getD (id - 1020) []).length (fun j => .int ((stT.getD (id - 1020) []).getD j 0)) (xA X) U U.heap) ∧
  (∀ q ∈ sT, vk_R q.1 q.2.1 q.2.2.1 (xa X q.2.2.2) U) ∧
  va_Z "java/lang/String" "COMPACT_STRINGS" "Z" (.int 1) (xA X) U U.heap ∧
  (∀ q ∈ nsT, va_Nw (.methodLinkNest q.1 q.2.1 q.2.2.1 q.2.2.2) U) ∧
  va_Zq "jdk/internal/util/Preconditions" "SIOOBE_FORMATTER" "Ljava/util/function/BiFunction;" (xA X) U U.heap
theorem Ext.warm {X : WX} {s U : State} (hW : s.WarmedH U.vm) (hq : ∀ a : Nat, a < s.heap.size → ¬ xA X a → U.heap[a]? = s.heap[a]?) (h : Ext X s) : Ext X U := by
  obtain ⟨h1, h2, h3, h4, h5, h6, h7⟩ := h
  refine ⟨fun id a b => ((h1 id a b).kept hq).moved hW.alike, fun q hm => ((h2 q hm).kept hq).moved hW.alike, fun id a b => ?_, fun q hm => (h4 q hm).warm hW, (h5.kept hq).moved hW.alike, fun q hm => (h6 q hm).warmM hW, (h7.kept hq).moved hW.alike⟩
  obtain ⟨a1, a2, a3, a4⟩ := h3 id a b
  exact ⟨(a1.kept hq).moved hW.alike, (a2.kept hq).moved hW.alike, (a3.kept hq).moved hW.alike, (a4.kept hq).moved hW.alike⟩
theorem Ext.same {X : WX} {s U : State} (hv : U.vm = s.vm) (hh : U.heap = s.heap) (h : Ext X s) : Ext X U := by
  have ha : s.vm.Alike U.vm := by rw [hv]; exact Vm.Alike.refl _
  have hq : ∀ a : Nat, a < s.heap.size → ¬ xA X a → U.heap[a]? = s.heap[a]? := fun a _ _ => by rw [hh]
  obtain ⟨h1, h2, h3, h4, h5, h6, h7⟩ := h
  refine ⟨fun id a b => ((h1 id a b).kept hq).moved ha, fun q hm => ((h2 q hm).kept hq).moved ha, fun id a b => ?_, fun q hm => (h4 q hm).same hv, (h5.kept hq).moved ha, fun q hm => (h6 q hm).same rfl hv.symm, (h7.kept hq).moved ha⟩
  obtain ⟨a1, a2, a3, a4⟩ := h3 id a b
  exact ⟨(a1.kept hq).moved ha, (a2.kept hq).moved ha, (a3.kept hq).moved ha, (a4.kept hq).moved ha⟩
/-- the addresses are apart and may change -/
def Dj (X : WX) : Prop := (∀ i j, i < SHF.length → j < SHF.length → xa X i = xa X j → i = j) ∧ ∀ i, i < SHF.length → xA X (xa X i)
abbrev wd (X : WX) (M : Mm) : va_W := wdc SHF (xa X) (xc X) M
def PreR (X : WX) (M : Mm) (U : State) : Prop := va_P (xD X) vwCl (wd X M) U.heap ∧ va_K (xD X) vwCl (tyT X) U ∧ Ext X U ∧ Fix M ∧ Dj X ∧ ∀ q, U.heap.size ≤ q → xA X q
theorem wdc_get {sh : List SC} {al : Nat → Nat} {cy : Nat → ClassId} {h : Mm} {i : Nat} {s : SC} (hs : sh[i]? = some s) : (wdc sh al cy h)[i]? = some (al i, cnc al cy h i s) := by
  simp [wdc, List.getElem?_mapIdx, hs]
theorem shf_lt {sh : List SC} {i : Nat} {s : SC} (hs : sh[i]? = some s) : i < sh.length := (List.getElem?_eq_some_iff.mp hs).1
theorem wd_get {X : WX} {M : Mm} {i : Nat} {s : SC} (hs : SHF[i]? = some s) : (wd X M)[i]? = some (xa X i, cnc (xa X) (xc X) M i s) := wdc_get hs
theorem wdc_get' {sh : List SC} {al : Nat → Nat} {cy : Nat → ClassId} {h : Mm} {i : Nat} {q : Nat × va_E} (hq : (wdc sh al cy h)[i]? = some q) : ∃ s, sh[i]? = some s ∧ q = (al i, cnc al cy h i s) := by
  simp only [wdc, List.getElem?_mapIdx] at hq
  cases hs : sh[i]? with
  | none => rw [hs] at hq; cases hq
  | some s => rw [hs] at hq; exact ⟨s, rfl, (Option.some.inj hq).symm⟩
theorem cnc_same {al : Nat → Nat} {cy : Nat → ClassId} {h h' : Mm} {j : Nat} (q1 : h'.1 j = h.1 j) (q2 : h'.2 j = h.2 j) (s : SC) : cnc al cy h' j s = cnc al cy h j s := by
  cases s with
  | inl ci => simp only [cnc, fdL, fdV, q1, q2]
  | inr p => obtain ⟨t, n⟩ := p; simp only [cnc, q1, q2]
theorem wdc_set {sh : List SC} {al : Nat → Nat} {cy : Nat → ClassId} {h h' : Mm} {i : Nat} {s : SC} (hs : sh[i]? = some s) (h1 : ∀ j, j ≠ i → h'.1 j = h.1 j ∧ h'.2 j = h.2 j) {e : va_E} (he : cnc al cy h' i s = e) : (wdc sh al cy h).set i (al i, e) = wdc sh al cy h' := by
  apply List.ext_getElem?
  intro j
  by_cases hj : i = j
  · subst hj
    have hc : i < (wdc sh al cy h).length := by simp only [wdc, List.length_mapIdx]; exact shf_lt hs
    rw [List.getElem?_set_self hc, wdc_get hs, he]
  · rw [List.getElem?_set_ne hj]
    simp only [wdc, List.getElem?_mapIdx]
    cases sh[j]? with
    | none => simp only [Option.map_none]
    | some s2 =>
      obtain ⟨q1, q2⟩ := h1 j (fun q => hj q.symm)
      simp only [Option.map_some, cnc_same q1 q2]
theorem wI_other {h : Mm} {i k : Nat} {v : Int32} : ∀ j, j ≠ i → (wI h i k v).1 j = h.1 j ∧ (wI h i k v).2 j = h.2 j := fun j hj => ⟨by simp only [wI, wR, if_neg hj], rfl⟩
theorem wL_other {h : Mm} {i k : Nat} {v : Int64} : ∀ j, j ≠ i → (wL h i k v).1 j = h.1 j ∧ (wL h i k v).2 j = h.2 j := fun j hj => ⟨rfl, by simp only [wL, wRL, if_neg hj]⟩
theorem wI_self {h : Mm} {i k : Nat} {v : Int32} : (wI h i k v).1 i = upd (h.1 i) k v := by simp only [wI, wR, if_true]
theorem wI_self2 {h : Mm} {i k : Nat} {v : Int32} : (wI h i k v).2 = h.2 := rfl
theorem wL_self {h : Mm} {i k : Nat} {v : Int64} : (wL h i k v).2 i = vp_updL (h.2 i) k v := by simp only [wL, wRL, if_true]
theorem wL_self1 {h : Mm} {i k : Nat} {v : Int64} : (wL h i k v).1 = h.1 := rfl
theorem wd_D {X : WX} (hD : Dj X) (M : Mm) : va_D (xA X) (wd X M) := by
  refine ⟨fun i j p q hi hj e => ?_, fun k q hk => ?_⟩
  · obtain ⟨s1, h1, rfl⟩ := wdc_get' hi
    obtain ⟨s2, h3, rfl⟩ := wdc_get' hj
    exact hD.1 i j (shf_lt h1) (shf_lt h3) e
  · obtain ⟨s1, h1, rfl⟩ := wdc_get' hk
    exact hD.2 k (shf_lt h1)
theorem fdL_get {al : Nat → Nat} {h : Mm} {i k d : Nat} {ds : List Nat} (hk : ds[k]? = some d) : (fdL al h i ds)[k]? = some (fdV al h i k d) := by
  simp only [fdL, List.getElem?_mapIdx, hk, Option.map_some]
theorem fdL_len {al : Nat → Nat} {h : Mm} {i k d : Nat} {ds : List Nat} (hk : ds[k]? = some d) : k < (fdL al h i ds).length := by
  simp only [fdL, List.length_mapIdx]; exact (List.getElem?_eq_some_iff.mp hk).1
theorem fdL_put {al : Nat → Nat} {h h' : Mm} {i k d : Nat} {ds : List Nat} {v : Value} (hk : ds[k]? = some d) (h1 : ∀ j, j ≠ k → h'.1 i j = h.1 i j ∧ h'.2 i j = h.2 i j) (hv : fdV al h' i k d = v) : fdL al h' i ds = (fdL al h i ds).set k v := by
  apply List.ext_getElem?
  intro j
  by_cases hj : k = j
  · subst hj
    rw [List.getElem?_set_self (fdL_len hk), fdL_get hk, hv]
  · rw [List.getElem?_set_ne hj]
    simp only [fdL, List.getElem?_mapIdx]
    cases ds[j]? with
    | none => simp only [Option.map_none]
    | some d2 =>
      obtain ⟨q1, q2⟩ := h1 j (fun q => hj q.symm)
      simp only [Option.map_some, fdV, q1, q2]
theorem cnc_putI {al : Nat → Nat} {cy : Nat → ClassId} {h : Mm} {i k ci : Nat} {v : Int32} (hk : (DS ci)[k]? = some 0) : cnc al cy (wI h i k v) i (.inl ci) = .inr (ci, (fdL al h i (DS ci)).set k (.int v)) := by
  show Sum.inr (ci, fdL al (wI h i k v) i (DS ci)) = _
  rw [fdL_put (h := h) (h' := wI h i k v) hk (fun j hj => ⟨by rw [wI_self]; simp only [upd, if_neg hj], rfl⟩) (v := .int v) (by simp only [fdV, wI_self, upd, if_true])]
theorem cnc_putL {al : Nat → Nat} {cy : Nat → ClassId} {h : Mm} {i k ci : Nat} {v : Int64} (hk : (DS ci)[k]? = some 1) : cnc al cy (wL h i k v) i (.inl ci) = .inr (ci, (fdL al h i (DS ci)).set k (.long v)) := by
  show Sum.inr (ci, fdL al (wL h i k v) i (DS ci)) = _
  rw [fdL_put (h := h) (h' := wL h i k v) hk (fun j hj => ⟨rfl, by rw [wL_self]; simp only [vp_updL, if_neg hj]⟩) (v := .long v) (by simp [fdV, wL_self, vp_updL])]
theorem cnc_astI {al : Nat → Nat} {cy : Nat → ClassId} {h : Mm} {i t n k : Nat} {v : Int32} (ht : t < 3) : cnc al cy (wI h i k v) i (.inr (t, n)) = .inl (cy t, n, .inl (upd (h.1 i) k v)) := by
  have h3 : ¬ t = 3 := by omega
  simp only [cnc, if_neg h3, if_pos ht, wI_self]
theorem cnc_astL {al : Nat → Nat} {cy : Nat → ClassId} {h : Mm} {i n k : Nat} {v : Int64} : cnc al cy (wL h i k v) i (.inr (3, n)) = .inl (cy 3, n, .inr (.inl (vp_updL (h.2 i) k v))) := by
  simp only [cnc, if_true, wL_self]
theorem cnc_arrI {al : Nat → Nat} {cy : Nat → ClassId} {h : Mm} {i t n : Nat} (ht : t < 3) : cnc al cy h i (.inr (t, n)) = .inl (cy t, n, .inl (h.1 i)) := by
  have h3 : ¬ t = 3 := by omega
  simp only [cnc, if_neg h3, if_pos ht]
theorem cnc_arrL {al : Nat → Nat} {cy : Nat → ClassId} {h : Mm} {i n : Nat} : cnc al cy h i (.inr (3, n)) = .inl (cy 3, n, .inr (.inl (h.2 i))) := by
  simp only [cnc, if_true]
theorem cnc_arrR {al : Nat → Nat} {cy : Nat → ClassId} {h : Mm} {i t n : Nat} (ht : 4 ≤ t) : cnc al cy h i (.inr (t, n)) = .inl (cy t, n, .inr (.inr (.inr (.inr (fun j => rfN al (h.1 i j)))))) := by
  have h3 : ¬ t = 3 := by omega
  have h4 : ¬ t < 3 := by omega
  simp only [cnc, if_neg h3, if_neg h4]
/-! the two halves of the memory -/
theorem cbs_1 {b : Bool} {h o : Mm} {i : Nat} (hc : decide (i < KM) = b) : (cbs b h o).1 i = h.1 i := by
  subst hc
  by_cases q : i < KM <;> simp [cbs, cb, q]
theorem cbs_2 {b : Bool} {h o : Mm} {i : Nat} (hc : decide (i < KM) = b) : (cbs b h o).2 i = h.2 i := by
  subst hc
  by_cases q : i < KM <;> simp [cbs, cb, q]
theorem cbs_wR {b : Bool} {h o : Mm} {i : Nat} {f : Nat → Int32} (hc : decide (i < KM) = b) : wR (cbs b h o) i f = cbs b (wR h i f) o := by
  subst hc
  by_cases q : i < KM
  · simp only [q, decide_true, cbs, cb, wR, cond_true]
    refine Prod.ext (funext fun a => ?_) rfl
    dsimp only
    by_cases e : a = i
    · subst e; simp [q]
    · simp [e]
  · simp only [q, decide_false, cbs, cb, wR, cond_false]
    refine Prod.ext (funext fun a => ?_) rfl
    dsimp only
    by_cases e : a = i
    · subst e; simp [q]
    · simp [e]
theorem cbs_wRL {b : Bool} {h o : Mm} {i : Nat} {f : Nat → Int64} (hc : decide (i < KM) = b) : wRL (cbs b h o) i f = cbs b (wRL h i f) o := by
  subst hc
  by_cases q : i < KM
  · simp only [q, decide_true, cbs, cb, wRL, cond_true]
    refine Prod.ext rfl (funext fun a => ?_)
    dsimp only
    by_cases e : a = i
    · subst e; simp [q]
    · simp [e]
  · simp only [q, decide_false, cbs, cb, wRL, cond_false]
    refine Prod.ext rfl (funext fun a => ?_)
    dsimp only
    by_cases e : a = i
    · subst e; simp [q]
    · simp [e]
theorem cbs_wI {b : Bool} {h o : Mm} {i k : Nat} {v : Int32} (hc : decide (i < KM) = b) : wI (cbs b h o) i k v = cbs b (wI h i k v) o := by
  rw [wI, wI, cbs_wR hc, cbs_1 hc]
theorem cbs_wL {b : Bool} {h o : Mm} {i k : Nat} {v : Int64} (hc : decide (i < KM) = b) : wL (cbs b h o) i k v = cbs b (wL h i k v) o := by
  rw [wL, wL, cbs_wRL hc, cbs_2 hc]
theorem Fix.wI {M : Mm} {i k : Nat} {v : Int32} (h : Fix M) (hn : isFx i k = false) : Fix (wI M i k v) := by
  intro id j hj
  by_cases e : id = i
  · subst e
    have hjk : j ≠ k := fun q => by rw [q, hn] at hj; cases hj
    rw [wI_self]
    simp only [upd, if_neg hjk]
    exact h id j hj
  · rw [(wI_other id e).1]; exact h id j hj
theorem Fix.wL {M : Mm} {i k : Nat} {v : Int64} (h : Fix M) : Fix (wL M i k v) := fun id j hj => h id j hj
theorem fx_obj {i k ci d : Nat} (hs : SHF[i]? = some (.inl ci)) (hd : (DS ci)[k]? = some d) (h2 : d ≠ 2) : isFx i k = false := by
  simp only [isFx, hs, hd]
  simpa using h2
theorem fx_ref {i k ci : Nat} (hs : SHF[i]? = some (.inl ci)) (hd : (DS ci)[k]? = some 2) : isFx i k = true := by
  simp [isFx, hs, hd]
theorem fx_arr {i k t n : Nat} (hs : SHF[i]? = some (.inr (t, n))) (ht : t < 4) : isFx i k = false := by
  have : ¬ 4 ≤ t := by omega
  simp [isFx, hs, this]
