theorem uwE0 : u_ws RX0 TX0 5 = [Cond.laysFinal "GreenPath$Copy" "GreenPath$Law" "kind" "I", Cond.laysFinal "GreenPath$Copy" "GreenPath$Law" "pair" "I", Cond.laysFinal "GreenPath$Copy" "GreenPath$Law" "m" "I", Cond.laysFinal "GreenPath$Copy" "GreenPath$Law" "a" "I", Cond.laysFinal "GreenPath$Copy" "GreenPath$Law" "b" "I"] := by decide +kernel
theorem uwX0 : ∀ w ∈ u_ws RX0 TX0 5, w ∈ tb := by
  rw [uwE0]
  exact List.forall_mem_cons.mpr ⟨kw_373, List.forall_mem_cons.mpr ⟨kw_374, List.forall_mem_cons.mpr ⟨kw_375, List.forall_mem_cons.mpr ⟨kw_376, List.forall_mem_cons.mpr ⟨kw_377, fun _ h => absurd h List.not_mem_nil⟩⟩⟩⟩⟩
theorem uwE1 : u_ws RX1 TX1 5 = [Cond.laysFinal "GreenPath$Eat" "GreenPath$Law" "kind" "I", Cond.laysFinal "GreenPath$Eat" "GreenPath$Law" "pair" "I", Cond.laysFinal "GreenPath$Eat" "GreenPath$Law" "m" "I", Cond.laysFinal "GreenPath$Eat" "GreenPath$Law" "a" "I", Cond.laysFinal "GreenPath$Eat" "GreenPath$Law" "b" "I"] := by decide +kernel
theorem uwX1 : ∀ w ∈ u_ws RX1 TX1 5, w ∈ tb := by
  rw [uwE1]
  exact List.forall_mem_cons.mpr ⟨kw_350, List.forall_mem_cons.mpr ⟨kw_351, List.forall_mem_cons.mpr ⟨kw_352, List.forall_mem_cons.mpr ⟨kw_353, List.forall_mem_cons.mpr ⟨kw_354, fun _ h => absurd h List.not_mem_nil⟩⟩⟩⟩⟩
theorem uwE2 : u_ws RX2 TX2 12 = [Cond.laysFinal "GreenPath$Island" "GreenPath$Island" "laws" "[LGreenPath$Law;", Cond.laysFinal "GreenPath$Island" "GreenPath$Island" "texts" "[LGreenPath$Text;", Cond.laysFinal "GreenPath$Island" "GreenPath$Island" "tape" "LGreenPath$Row;", Cond.laysFinal "GreenPath$Island" "GreenPath$Island" "waiting" "LGreenPath$Row;", Cond.lays "GreenPath$Island" "GreenPath$Island" "state" "I", Cond.lays "GreenPath$Island" "GreenPath$Island" "fenced" "I", Cond.lays "GreenPath$Island" "GreenPath$Island" "met" "I", Cond.lays "GreenPath$Island" "GreenPath$Island" "spent" "I", Cond.lays "GreenPath$Island" "GreenPath$Island" "z" "I", Cond.laysFinal "GreenPath$Island" "GreenPath$Island" "change" "[I", Cond.laysFinal "GreenPath$Island" "GreenPath$Island" "growth" "[I", Cond.laysFinal "GreenPath$Island" "GreenPath$Island" "shift" "[I"] := by decide +kernel
theorem uwX2 : ∀ w ∈ u_ws RX2 TX2 12, w ∈ tb := by
  rw [uwE2]
  exact List.forall_mem_cons.mpr ⟨kw_150, List.forall_mem_cons.mpr ⟨kw_152, List.forall_mem_cons.mpr ⟨kw_154, List.forall_mem_cons.mpr ⟨kw_156, List.forall_mem_cons.mpr ⟨kw_158, List.forall_mem_cons.mpr ⟨kw_160, List.forall_mem_cons.mpr ⟨kw_162, List.forall_mem_cons.mpr ⟨kw_164, List.forall_mem_cons.mpr ⟨kw_166, List.forall_mem_cons.mpr ⟨kw_168, List.forall_mem_cons.mpr ⟨kw_170, List.forall_mem_cons.mpr ⟨kw_172, fun _ h => absurd h List.not_mem_nil⟩⟩⟩⟩⟩⟩⟩⟩⟩⟩⟩⟩
theorem uwE3 : u_ws RX3 TX3 5 = [Cond.laysFinal "GreenPath$Join" "GreenPath$Law" "kind" "I", Cond.laysFinal "GreenPath$Join" "GreenPath$Law" "pair" "I", Cond.laysFinal "GreenPath$Join" "GreenPath$Law" "m" "I", Cond.laysFinal "GreenPath$Join" "GreenPath$Law" "a" "I", Cond.laysFinal "GreenPath$Join" "GreenPath$Law" "b" "I"] := by decide +kernel
theorem uwX3 : ∀ w ∈ u_ws RX3 TX3 5, w ∈ tb := by
  rw [uwE3]
  exact List.forall_mem_cons.mpr ⟨kw_384, List.forall_mem_cons.mpr ⟨kw_385, List.forall_mem_cons.mpr ⟨kw_386, List.forall_mem_cons.mpr ⟨kw_387, List.forall_mem_cons.mpr ⟨kw_388, fun _ h => absurd h List.not_mem_nil⟩⟩⟩⟩⟩
theorem uwE4 : u_ws RX4 TX4 5 = [Cond.laysFinal "GreenPath$Law" "GreenPath$Law" "kind" "I", Cond.laysFinal "GreenPath$Law" "GreenPath$Law" "pair" "I", Cond.laysFinal "GreenPath$Law" "GreenPath$Law" "m" "I", Cond.laysFinal "GreenPath$Law" "GreenPath$Law" "a" "I", Cond.laysFinal "GreenPath$Law" "GreenPath$Law" "b" "I"] := by decide +kernel
theorem uwX4 : ∀ w ∈ u_ws RX4 TX4 5, w ∈ tb := by
  rw [uwE4]
  exact List.forall_mem_cons.mpr ⟨kw_403, List.forall_mem_cons.mpr ⟨kw_404, List.forall_mem_cons.mpr ⟨kw_405, List.forall_mem_cons.mpr ⟨kw_406, List.forall_mem_cons.mpr ⟨kw_407, fun _ h => absurd h List.not_mem_nil⟩⟩⟩⟩⟩
theorem uwE5 : u_ws RX5 TX5 2 = [Cond.laysFinal "GreenPath$Row" "GreenPath$Row" "cells" "[I", Cond.lays "GreenPath$Row" "GreenPath$Row" "size" "I"] := by decide +kernel
theorem uwX5 : ∀ w ∈ u_ws RX5 TX5 2, w ∈ tb := by
  rw [uwE5]
  exact List.forall_mem_cons.mpr ⟨kw_62, List.forall_mem_cons.mpr ⟨kw_64, fun _ h => absurd h List.not_mem_nil⟩⟩
theorem uwE6 : u_ws RX6 TX6 11 = [Cond.laysFinal "GreenPath$Search" "GreenPath$Search" "island" "LGreenPath$Island;", Cond.laysFinal "GreenPath$Search" "GreenPath$Search" "states" "[I", Cond.laysFinal "GreenPath$Search" "GreenPath$Search" "leads" "[I", Cond.laysFinal "GreenPath$Search" "GreenPath$Search" "queue" "[I", Cond.laysFinal "GreenPath$Search" "GreenPath$Search" "distance" "[I", Cond.laysFinal "GreenPath$Search" "GreenPath$Search" "origin" "[I", Cond.lays "GreenPath$Search" "GreenPath$Search" "found" "I", Cond.lays "GreenPath$Search" "GreenPath$Search" "marks" "[I", Cond.lays "GreenPath$Search" "GreenPath$Search" "otherMarks" "[I", Cond.lays "GreenPath$Search" "GreenPath$Search" "sums" "[J", Cond.lays "GreenPath$Search" "GreenPath$Search" "otherSums" "[J"] := by decide +kernel
theorem uwX6 : ∀ w ∈ u_ws RX6 TX6 11, w ∈ tb := by
  rw [uwE6]
  exact List.forall_mem_cons.mpr ⟨kw_200, List.forall_mem_cons.mpr ⟨kw_202, List.forall_mem_cons.mpr ⟨kw_204, List.forall_mem_cons.mpr ⟨kw_206, List.forall_mem_cons.mpr ⟨kw_208, List.forall_mem_cons.mpr ⟨kw_210, List.forall_mem_cons.mpr ⟨kw_212, List.forall_mem_cons.mpr ⟨kw_214, List.forall_mem_cons.mpr ⟨kw_216, List.forall_mem_cons.mpr ⟨kw_218, List.forall_mem_cons.mpr ⟨kw_220, fun _ h => absurd h List.not_mem_nil⟩⟩⟩⟩⟩⟩⟩⟩⟩⟩⟩
theorem uwE7 : u_ws RX7 TX7 5 = [Cond.laysFinal "GreenPath$Split" "GreenPath$Law" "kind" "I", Cond.laysFinal "GreenPath$Split" "GreenPath$Law" "pair" "I", Cond.laysFinal "GreenPath$Split" "GreenPath$Law" "m" "I", Cond.laysFinal "GreenPath$Split" "GreenPath$Law" "a" "I", Cond.laysFinal "GreenPath$Split" "GreenPath$Law" "b" "I"] := by decide +kernel
theorem uwX7 : ∀ w ∈ u_ws RX7 TX7 5, w ∈ tb := by
  rw [uwE7]
  exact List.forall_mem_cons.mpr ⟨kw_362, List.forall_mem_cons.mpr ⟨kw_363, List.forall_mem_cons.mpr ⟨kw_364, List.forall_mem_cons.mpr ⟨kw_365, List.forall_mem_cons.mpr ⟨kw_366, fun _ h => absurd h List.not_mem_nil⟩⟩⟩⟩⟩
theorem uwE8 : u_ws RX8 TX8 6 = [Cond.laysFinal "GreenPath$Text" "GreenPath$Text" "tape" "LGreenPath$Row;", Cond.laysFinal "GreenPath$Text" "GreenPath$Text" "names" "Ljava/lang/String;", Cond.laysFinal "GreenPath$Text" "GreenPath$Text" "code" "LGreenPath$Row;", Cond.laysFinal "GreenPath$Text" "GreenPath$Text" "values" "[I", Cond.lays "GreenPath$Text" "GreenPath$Text" "at" "I", Cond.lays "GreenPath$Text" "GreenPath$Text" "open" "I"] := by decide +kernel
theorem uwX8 : ∀ w ∈ u_ws RX8 TX8 6, w ∈ tb := by
  rw [uwE8]
  exact List.forall_mem_cons.mpr ⟨kw_476, List.forall_mem_cons.mpr ⟨kw_478, List.forall_mem_cons.mpr ⟨kw_480, List.forall_mem_cons.mpr ⟨kw_482, List.forall_mem_cons.mpr ⟨kw_484, List.forall_mem_cons.mpr ⟨kw_486, fun _ h => absurd h List.not_mem_nil⟩⟩⟩⟩⟩⟩
theorem uwE9 : u_ws RX9 TX9 5 = [Cond.laysFinal "GreenPath$Third" "GreenPath$Law" "kind" "I", Cond.laysFinal "GreenPath$Third" "GreenPath$Law" "pair" "I", Cond.laysFinal "GreenPath$Third" "GreenPath$Law" "m" "I", Cond.laysFinal "GreenPath$Third" "GreenPath$Law" "a" "I", Cond.laysFinal "GreenPath$Third" "GreenPath$Law" "b" "I"] := by decide +kernel
theorem uwX9 : ∀ w ∈ u_ws RX9 TX9 5, w ∈ tb := by
  rw [uwE9]
  exact List.forall_mem_cons.mpr ⟨kw_115, List.forall_mem_cons.mpr ⟨kw_117, List.forall_mem_cons.mpr ⟨kw_119, List.forall_mem_cons.mpr ⟨kw_121, List.forall_mem_cons.mpr ⟨kw_123, fun _ h => absurd h List.not_mem_nil⟩⟩⟩⟩⟩
theorem uwE10 : u_ws RX10 TX10 5 = [Cond.laysFinal "GreenPath$Told" "GreenPath$Law" "kind" "I", Cond.laysFinal "GreenPath$Told" "GreenPath$Law" "pair" "I", Cond.laysFinal "GreenPath$Told" "GreenPath$Law" "m" "I", Cond.laysFinal "GreenPath$Told" "GreenPath$Law" "a" "I", Cond.laysFinal "GreenPath$Told" "GreenPath$Law" "b" "I"] := by decide +kernel
theorem uwX10 : ∀ w ∈ u_ws RX10 TX10 5, w ∈ tb := by
  rw [uwE10]
  exact List.forall_mem_cons.mpr ⟨kw_395, List.forall_mem_cons.mpr ⟨kw_396, List.forall_mem_cons.mpr ⟨kw_397, List.forall_mem_cons.mpr ⟨kw_398, List.forall_mem_cons.mpr ⟨kw_399, fun _ h => absurd h List.not_mem_nil⟩⟩⟩⟩⟩
theorem uwE11 : u_ws RX11 TX11 8 = [Cond.laysFinal "GreenPath" "GreenPath" "now" "LGreenPath$Island;", Cond.laysFinal "GreenPath" "GreenPath" "kept" "LGreenPath$Island;", Cond.laysFinal "GreenPath" "GreenPath" "search" "LGreenPath$Search;", Cond.laysFinal "GreenPath" "GreenPath" "bodies" "LGreenPath$Row;", Cond.laysFinal "GreenPath" "GreenPath" "sheets" "[LGreenPath$Row;", Cond.laysFinal "GreenPath" "GreenPath" "sheetBits" "[I", Cond.laysFinal "GreenPath" "GreenPath" "errors" "[I", Cond.lays "GreenPath" "GreenPath" "images" "I"] := by decide +kernel
theorem uwX11 : ∀ w ∈ u_ws RX11 TX11 8, w ∈ tb := by
  rw [uwE11]
  exact List.forall_mem_cons.mpr ⟨kw_296, List.forall_mem_cons.mpr ⟨kw_298, List.forall_mem_cons.mpr ⟨kw_300, List.forall_mem_cons.mpr ⟨kw_302, List.forall_mem_cons.mpr ⟨kw_304, List.forall_mem_cons.mpr ⟨kw_306, List.forall_mem_cons.mpr ⟨kw_308, List.forall_mem_cons.mpr ⟨kw_310, fun _ h => absurd h List.not_mem_nil⟩⟩⟩⟩⟩⟩⟩⟩
theorem uwE12 : u_ws RX12 TX12 30 = [Cond.laysFinal "GreenPathModel" "GreenPathModel" "d" "[I", Cond.laysFinal "GreenPathModel" "GreenPathModel" "kept" "[I", Cond.lays "GreenPathModel" "GreenPathModel" "images" "I", Cond.laysFinal "GreenPathModel" "GreenPathModel" "found" "[I", Cond.lays "GreenPathModel" "GreenPathModel" "base" "I", Cond.lays "GreenPathModel" "GreenPathModel" "at" "I", Cond.lays "GreenPathModel" "GreenPathModel" "size" "I", Cond.lays "GreenPathModel" "GreenPathModel" "fault" "I", Cond.lays "GreenPathModel" "GreenPathModel" "opened" "I", Cond.lays "GreenPathModel" "GreenPathModel" "isPrice" "Z", Cond.laysFinal "GreenPathModel" "GreenPathModel" "names" "[I", Cond.laysFinal "GreenPathModel" "GreenPathModel" "comes" "[I", Cond.laysFinal "GreenPathModel" "GreenPathModel" "far" "[I", Cond.laysFinal "GreenPathModel" "GreenPathModel" "line" "[I", Cond.laysFinal "GreenPathModel" "GreenPathModel" "leads" "[Z", Cond.laysFinal "GreenPathModel" "GreenPathModel" "waysTo" "[J", Cond.laysFinal "GreenPathModel" "GreenPathModel" "waysThen" "[J", Cond.laysFinal "GreenPathModel" "GreenPathModel" "could" "[Z", Cond.laysFinal "GreenPathModel" "GreenPathModel" "couldAhead" "[Z", Cond.laysFinal "GreenPathModel" "GreenPathModel" "sureFirst" "[Z", Cond.laysFinal "GreenPathModel" "GreenPathModel" "sureOther" "[Z", Cond.laysFinal "GreenPathModel" "GreenPathModel" "thenFirst" "[Z", Cond.laysFinal "GreenPathModel" "GreenPathModel" "thenOther" "[Z", Cond.laysFinal "GreenPathModel" "GreenPathModel" "traced" "[I", Cond.lays "GreenPathModel" "GreenPathModel" "traceMany" "I", Cond.lays "GreenPathModel" "GreenPathModel" "who" "I", Cond.laysFinal "GreenPathModel" "GreenPathModel" "bitsOf" "[I", Cond.laysFinal "GreenPathModel" "GreenPathModel" "sizeOf" "[I", Cond.laysFinal "GreenPathModel" "GreenPathModel" "number" "[I", Cond.laysFinal "GreenPathModel" "GreenPathModel" "lifted" "[I"] := by decide +kernel
theorem uwX12 : ∀ w ∈ u_ws RX12 TX12 30, w ∈ tb := by
  rw [uwE12]
  exact List.forall_mem_cons.mpr ⟨kw_1022, List.forall_mem_cons.mpr ⟨kw_1024, List.forall_mem_cons.mpr ⟨kw_1026, List.forall_mem_cons.mpr ⟨kw_1028, List.forall_mem_cons.mpr ⟨kw_1030, List.forall_mem_cons.mpr ⟨kw_1032, List.forall_mem_cons.mpr ⟨kw_1034, List.forall_mem_cons.mpr ⟨kw_1036, List.forall_mem_cons.mpr ⟨kw_1038, List.forall_mem_cons.mpr ⟨kw_1040, List.forall_mem_cons.mpr ⟨kw_1042, List.forall_mem_cons.mpr ⟨kw_1044, List.forall_mem_cons.mpr ⟨kw_1046, List.forall_mem_cons.mpr ⟨kw_1048, List.forall_mem_cons.mpr ⟨kw_1050, List.forall_mem_cons.mpr ⟨kw_1052, List.forall_mem_cons.mpr ⟨kw_1054, List.forall_mem_cons.mpr ⟨kw_1056, List.forall_mem_cons.mpr ⟨kw_1058, List.forall_mem_cons.mpr ⟨kw_1060, List.forall_mem_cons.mpr ⟨kw_1062, List.forall_mem_cons.mpr ⟨kw_1064, List.forall_mem_cons.mpr ⟨kw_1066, List.forall_mem_cons.mpr ⟨kw_1068, List.forall_mem_cons.mpr ⟨kw_1070, List.forall_mem_cons.mpr ⟨kw_1072, List.forall_mem_cons.mpr ⟨kw_1074, List.forall_mem_cons.mpr ⟨kw_1076, List.forall_mem_cons.mpr ⟨kw_1078, List.forall_mem_cons.mpr ⟨kw_1080, fun _ h => absurd h List.not_mem_nil⟩⟩⟩⟩⟩⟩⟩⟩⟩⟩⟩⟩⟩⟩⟩⟩⟩⟩⟩⟩⟩⟩⟩⟩⟩⟩⟩⟩⟩⟩
/-- each class of the picture: its words are in the tables, its names apart, its types as told -/
theorem clW : ∀ (ci : Nat) (r : vw_C), vwCl[ci]? = some r → (∀ w ∈ u_ws r.1 r.2.1 r.2.2, w ∈ tb) ∧ (∀ a, a < r.2.2 → ∀ b, b < r.2.2 → a ≠ b → (r.2.1 a).2.1 ≠ (r.2.1 b).2.1) ∧ ∀ k, k < r.2.2 → parseFieldDescriptor (r.2.1 k).2.2.1 = some (fty ci k) := by
  intro ci r h
  match ci, h with
  | 0, h => cases h; exact ⟨uwX0, nmX0, tyX0_ok⟩
  | 1, h => cases h; exact ⟨uwX1, nmX1, tyX1_ok⟩
  | 2, h => cases h; exact ⟨uwX2, nmX2, tyX2_ok⟩
  | 3, h => cases h; exact ⟨uwX3, nmX3, tyX3_ok⟩
  | 4, h => cases h; exact ⟨uwX4, nmX4, tyX4_ok⟩
  | 5, h => cases h; exact ⟨uwX5, nmX5, tyX5_ok⟩
  | 6, h => cases h; exact ⟨uwX6, nmX6, tyX6_ok⟩
  | 7, h => cases h; exact ⟨uwX7, nmX7, tyX7_ok⟩
  | 8, h => cases h; exact ⟨uwX8, nmX8, tyX8_ok⟩
  | 9, h => cases h; exact ⟨uwX9, nmX9, tyX9_ok⟩
  | 10, h => cases h; exact ⟨uwX10, nmX10, tyX10_ok⟩
  | 11, h => cases h; exact ⟨uwX11, nmX11, tyX11_ok⟩
  | 12, h => cases h; exact ⟨uwX12, nmX12, tyX12_ok⟩
  | k + 13, h => simp at h
/-- a field that the instruction names is field k of class ci -/
def fldW (own : String) (index ci k : Nat) : Prop := ∃ (r : vw_C) (ref : String), vwCl[ci]? = some r ∧ k < r.2.2 ∧ Cond.fieldLink own index ref (r.2.1 k).2.1 (r.2.1 k).2.2.1 ∈ tb ∧ (ref = (r.2.1 k).1 ∨ Cond.sameField ref (r.2.1 k).1 (r.2.1 k).2.1 (r.2.1 k).2.2.1 ∈ tb)
def up {α : Type} (f : Int → α) (i : Int) (x : α) : Int → α := fun j => if j = i then x else f j
def setr {α : Type} (V : Nat → Int → α) (a : Nat) (f : Int → α) : Nat → Int → α := fun b => if b = a then f else V b
def wr (V : Mm) (a : Nat) (i x : Int) : Mm := setr V a (up (V a) i x)
def wrR (K : Sk) (a : Nat) (i : Int) (x : Nat) : Sk := (K.1, setr K.2.1 a (up (K.2.1 a) i x), K.2.2)
/-- a new cell: all 0 or null -/
def nwK (K : Sk) (k n : Nat) : Sk := (fun b => if b = K.2.2 then (k, n) else K.1 b, setr K.2.1 K.2.2 (fun _ => 0), K.2.2 + 1)
def nwV (K : Sk) (V : Mm) : Mm := setr V K.2.2 (fun _ => 0)
section HR
variable {γ : Gh} {X : MX} {d mc ms pc : Nat} {ls st : List PV} {K : Sk} {V : Mm} {Q : Option PV → Sk → Mm → Prop}
theorem Hp.ne0 {U : State} {H : Heap} (h : Hp γ K V U H) {a : Nat} (ha : (K.1 a).1 ≠ 0) : a ≠ 0 := fun q => ha (by rw [q]; exact h.2.2.2.2.2.1)
theorem Hp.lt {U : State} {H : Heap} (h : Hp γ K V U H) {a : Nat} (ha : (K.1 a).1 ≠ 0) : a < K.2.2 := Nat.not_le.mp fun q => ha (h.2.2.2.1 a q)
theorem Hp.apart {U : State} {H : Heap} (h : Hp γ K V U H) {a b : Nat} (ha : 100 ≤ a) (hb : (K.1 b).1 ≠ 0) (hab : b ≠ a) : ad γ b ≠ ad γ a := by
  unfold ad
  rw [if_neg (show ¬ a < 100 by omega)]
  by_cases h1 : b < 100
  · rw [if_pos h1]
    have := h.2.2.2.2.1 b h1 hb
    omega
  · rw [if_neg h1]
    omega
theorem cO.kept {K' : Sk} {V' : Mm} {a : Nat} {U : State} {H H' : Heap} (h : cO γ K V a U H) (e1 : K'.1 a = K.1 a) (e2 : ∀ j, K'.2.1 a j = K.2.1 a j) (e3 : ∀ j, V' a j = V a j) (e4 : (K.1 a).1 ≠ 0 → H'[ad γ a]? = H[ad γ a]?) : cO γ K' V' a U H' := by
  refine ⟨fun z1 z2 => ?_, fun z1 => ?_, fun z1 => ?_⟩
  · rw [e1] at z1 z2 ⊢
    obtain ⟨g0, cell, g1, g2, g3, g4, g5, g6, g7, g8⟩ := h.1 z1 z2
    refine ⟨g0, cell, by rw [e4 (by omega)]; exact g1, g2, g3, g4, g5, fun j hj => ?_, g7, g8⟩
    rw [g6 j hj]
    unfold eV
    simp only [e2, e3]
  · rw [e1] at z1 ⊢
    obtain ⟨r, g1, g2⟩ := h.2.1 z1
    refine ⟨r, g1, (g2.kept (e4 (by omega))).to (fun k hk => ?_)⟩
    unfold fV
    simp only [e2, e3]
  · rw [e1] at z1
    obtain ⟨⟨c1, a1, a2, a3, a4⟩, ⟨cf, k, i, f, c2, b1, b2, b3, b4, b5, b6⟩, ⟨cf', k', i', f', c3, d1, d2, d3, d4, d5, d6⟩⟩ := h.2.2 z1
    have e5 := e4 (by omega)
    refine ⟨⟨c1, by rw [e5]; exact a1, a2, a3, a4⟩, ⟨cf, k, i, f, c2, b1, b2, by rw [e5]; exact b3, b4, by rw [e3]; exact b5, b6⟩, ⟨cf', k', i', f', c3, d1, d2, by rw [e5]; exact d3, d4, by rw [e2]; exact d5, d6⟩⟩
/-- one cell is another -/
theorem Hp.upd {K' : Sk} {V' : Mm} {a : Nat} {U : State} {H H' : Heap} (h : Hp γ K V U H) (ha : 100 ≤ a) (e1 : K'.1 = K.1) (e0 : K'.2.2 = K.2.2) (e2 : ∀ b, b ≠ a → ∀ j, K'.2.1 b j = K.2.1 b j) (e3 : ∀ b, b ≠ a → ∀ j, V' b j = V b j) (hz : H'.size = H.size) (ho : ∀ q, q ≠ ad γ a → H'[q]? = H[q]?) (hc : cO γ K' V' a U H') : Hp γ K' V' U H' := by
  refine ⟨fun b => ?_, by rw [hz, e0]; exact h.2.1, by rw [e0]; exact h.2.2.1, by rw [e0, e1]; exact h.2.2.2.1, by rw [e1]; exact h.2.2.2.2.1, by rw [e1]; exact h.2.2.2.2.2.1, fun q hq => ?_⟩
  · by_cases hb : b = a
    · subst hb
      exact hc
    · exact (h.1 b).kept (by rw [e1]) (e2 b hb) (e3 b hb) (fun hk => ho _ (h.apart ha hk hb))
  · refine (h.2.2.2.2.2.2 q hq).kept (fun x _ h2 => ho x (fun q => h2 ?_))
    rw [q]
    unfold ad
    rw [if_neg (by omega)]
    exact Nat.le_add_right _ _
theorem ad_new {a : Nat} (ha : 100 ≤ a) : gB γ ≤ ad γ a := by
  unfold ad
  rw [if_neg (by omega)]
  exact Nat.le_add_right _ _
theorem Hp.obj {U : State} {H : Heap} (h : Hp γ K V U H) {a ci : Nat} (hs : (K.1 a).1 = ci + 10) : oO γ K V a H ci := by
  have := (h.1 a).2.1 (by omega)
  rw [hs] at this
  exact this
theorem Hp.arr {U : State} {H : Heap} (h : Hp γ K V U H) {a k n : Nat} (hs : K.1 a = (k, n)) (h1 : 1 ≤ k) (h7 : k ≤ 7) : aO γ K V a U H k n := by
  have := (h.1 a).1 (by rw [hs]; exact h1) (by rw [hs]; exact h7)
  rw [hs] at this
  exact this
/-- what comes of a field, of a type -/
theorem ev_getG {index ci k a : Nat} {v : PV} (hd : decode X.2.1 pc = .ok (.getfield index, 3)) (hf0 : fldW X.1.cls index ci k) (hs : (K.1 a).1 = ci + 10) (hv : cV γ v = fV γ K V (fty ci k) a k) (kk : Ev γ X d mc ms (pc + 3) ls (v :: st) K V Q) : Ev γ X d mc ms pc ls (vR a :: st) K V Q := by
  intro p l e s m args below meth c H locs als cells slots TC TS hc hh hl hf h1 h2
  show W _ _ _ _ _ _ _ _ _ _ _ _ _ _ _ (F0 m pc als (cV γ (vR a) :: st.map (cV γ)))
  rw [cV_ref (hh.ne0 (by omega))]
  obtain ⟨r, ref, f1, f2, f3, f4⟩ := hf0
  obtain ⟨r', g1, cell, q1, q2, q3, q4⟩ := hh.obj hs
  cases f1.symm.trans g1
  have hts := hc.2.2.2.2.1
  obtain ⟨hS, hfc, kC, hkC, hkind⟩ := hc.2.2.2.2.2.2.2.2.2.1.1 ci _ f1
  obtain ⟨cf, kf, fi, f, hi, hsl⟩ := hS k f2
  have hsame : s.fieldFound? ref (r.2.1 k).2.1 (r.2.1 k).2.2.1 = some (cf, kf, fi, f) := by
    rcases f4 with f4 | f4
    · rw [f4]; exact hi
    · exact u_same (hts _ f4) _ hi
  refine W.getf hc.1 hc.2.1 hc.2.2.2.1 (hts _ f3) hsame (u_facts hfc hkC (u_lays hts (clW ci r f1).1 f2) hi).1 q1 (by rw [q3]; exact fun h => by cases h) (v := cV γ v) ?_ rfl rfl hd (kk p l e s m args below meth c H locs als cells slots TC TS hc hh hl hf h1 h2)
  rw [hsl, q4 k f2, hv]
theorem ev_getI {index ci k a : Nat} {ki : Int} (hd : decode X.2.1 pc = .ok (.getfield index, 3)) (hf0 : fldW X.1.cls index ci k) (hs : (K.1 a).1 = ci + 10) (hty : fty ci k = .int ∨ fty ci k = .boolean) (hki : (k : Int) = ki) (kk : Ev γ X d mc ms (pc + 3) ls (vI (V a ki) :: st) K V Q) : Ev γ X d mc ms pc ls (vR a :: st) K V Q := by
  subst hki
  exact ev_getG hd hf0 hs (by rcases hty with h | h <;> rw [h] <;> rfl) kk
def isRT (t : FieldType) : Bool := match t with
  | .object _ => true
  | .array _ => true
  | _ => false
theorem ev_getR {index ci k a : Nat} (hd : decode X.2.1 pc = .ok (.getfield index, 3)) (hf0 : fldW X.1.cls index ci k) (hs : (K.1 a).1 = ci + 10) (hty : isRT (fty ci k) = true) (kk : Ev γ X d mc ms (pc + 3) ls (vR (K.2.1 a k) :: st) K V Q) : Ev γ X d mc ms pc ls (vR a :: st) K V Q := by
  refine ev_getG hd hf0 hs ?_ kk
  generalize fty ci k = ty at hty ⊢
  cases ty <;> first | rfl | (simp [isRT] at hty)
/-- a field is written: of an ordinary field; of a final one, in its constructor -/
theorem ev_putG {index ci k a : Nat} {v : PV} {K' : Sk} {V' : Mm} (hd : decode X.2.1 pc = .ok (.putfield index, 3)) (hf0 : fldW X.1.cls index ci k) (ha : 100 ≤ a) (hs : (K.1 a).1 = ci + 10) (hfin : ∀ r : vw_C, vwCl[ci]? = some r → (r.2.1 k).2.2.2 = true → X.1.name = "<init>" ∧ (r.2.1 k).1 = X.1.cls)
    (hn : narrow (fty ci k) (cV γ v) = cV γ v) (hfit : fits (fty ci k) (cV γ v) = true)
    (e1 : K'.1 = K.1) (e0 : K'.2.2 = K.2.2) (e2 : ∀ b, b ≠ a → ∀ j, K'.2.1 b j = K.2.1 b j) (e3 : ∀ b, b ≠ a → ∀ j, V' b j = V b j)
    (e4 : ∀ j : Nat, fV γ K' V' (fty ci j) a j = if j = k then cV γ v else fV γ K V (fty ci j) a j)
    (kk : Ev γ X d mc ms (pc + 3) ls st K' V' Q) : Ev γ X d mc ms pc ls (v :: vR a :: st) K V Q := by
  intro p l e s m args below meth c H locs als cells slots TC TS hc hh hl hf h1 h2
  show W _ _ _ _ _ _ _ _ _ _ _ _ _ _ _ (F0 m pc als (cV γ v :: cV γ (vR a) :: st.map (cV γ)))
  rw [cV_ref (hh.ne0 (by omega))]
  obtain ⟨r, ref, f1, f2, f3, f4⟩ := hf0
  obtain ⟨r', g1, cell, q1, q2, q3, q4⟩ := hh.obj hs
  cases f1.symm.trans g1
  have hts := hc.2.2.2.2.1
  have hK := hc.2.2.2.2.2.2.2.2.2.1
  obtain ⟨hin, hnm, hty⟩ := clW ci r f1
  have hap := va_apart (own := X.1.cls) hts hin (fty ci) hty hnm hK f1
  obtain ⟨hS, hfc, kC, hkC, hkind⟩ := hK.1 ci _ f1
  obtain ⟨cf, kf, fi, f, hi, hsl⟩ := hS k f2
  have hsame : s.fieldFound? ref (r.2.1 k).2.1 (r.2.1 k).2.2.1 = some (cf, kf, fi, f) := by
    rcases f4 with f4 | f4
    · rw [f4]; exact hi
    · exact u_same (hts _ f4) _ hi
  have hst := (u_facts hfc hkC (u_lays hts hin f2) hi).1
  have hlay := hts _ (hin _ (u_in_lay f2))
  have key : ∀ (H' : Heap), H'[ad γ a]? = some (cell.setSlot f.slot (cV γ v)) → H'.size = H.size → (∀ q, q ≠ ad γ a → H'[q]? = H[q]?) → Hp γ K' V' s H' := by
    intro H' x1 x2 x3
    refine hh.upd ha e1 e0 e2 e3 x2 x3 ⟨fun z1 z2 => ?_, fun z1 => ?_, fun z1 => by rw [e1] at z1; omega⟩
    · rw [e1] at z2; omega
    · rw [e1, hs]
      show oO γ K' V' a H' ci
      refine ⟨r, f1, _, x1, q2, q3, fun j hj => ?_⟩
      rw [hsl, t_set q4 hap f2 _ j hj]
      show some (updV _ k (cV γ v) j) = some (fV γ K' V' (fty ci j) a j)
      rw [e4]
      rfl
  have hf' : ∀ q ∈ locs ++ [⟨ad γ a, f.slot⟩], gB γ ≤ q.base := by
    intro q hq
    rcases List.mem_append.mp hq with h | h
    · exact hf q h
    · cases List.mem_singleton.mp h
      exact ad_new ha
  by_cases hfn : (r.2.1 k).2.2.2 = true
  · obtain ⟨hin2, hdecl⟩ := hfin r f1 hfn
    unfold u_lay at hlay
    rw [if_pos hfn] at hlay
    have hcf : m.cls = cf := by
      obtain ⟨_, _, c', _, _, _, -, -, hf', -, -, -, hown2, -⟩ := Cond.laysFinal_spec hlay
      have e1 : c' = cf := by have := hi.symm.trans hf'; simp at this; exact this.1.symm
      rw [hdecl] at hown2
      rw [← e1]; exact Option.some.inj (hc.2.2.2.1.symm.trans hown2)
    have h6 := u_fits hfc hkC hkind (Or.inr hlay) hi (hty k f2) hn hfit
    refine W.putFinK hc.1 hc.2.1 hc.2.2.2.1 (hts _ f3) hsame hst hcf (hc.2.2.2.2.2.2.2.1.trans hin2) (by rw [q2]; exact h6) q1 q3 (by rw [hsl]; exact k2_hasslot (q4 k f2)) rfl rfl hd fun H' x1 x2 x3 => ?_
    exact kk p l e s m args below meth c H' _ als cells slots TC TS hc (key H' x1 x2 x3) hl hf' h1 h2
  · unfold u_lay at hlay
    rw [if_neg hfn] at hlay
    have h6 := u_store hfc hkC hkind hlay hi (hty k f2) hn hfit
    refine W.putK hc.1 hc.2.1 (f := f) ⟨hc.2.2.2.1, hts _ f3, ⟨_, _, _, hsame⟩, hst⟩ (by rw [q2]; exact h6) q1 q3 (by rw [hsl]; exact k2_hasslot (q4 k f2)) rfl rfl hd fun H' x1 x2 x3 => ?_
    exact kk p l e s m args below meth c H' _ als cells slots TC TS hc (key H' x1 x2 x3) hl hf' h1 h2
theorem wr_self {a : Nat} {i x : Int} : wr V a i x a i = x := by simp [wr, setr, up]
theorem wr_ne {a b : Nat} {i j x : Int} (h : ¬ (b = a ∧ j = i)) : wr V a i x b j = V b j := by
  unfold wr setr
  by_cases hb : b = a
  · subst hb
    have : ¬ j = i := fun q => h ⟨rfl, q⟩
    simp [up, this]
  · rw [if_neg hb]
theorem ev_putI {index ci k a : Nat} {n ki : Int} (hd : decode X.2.1 pc = .ok (.putfield index, 3)) (hf0 : fldW X.1.cls index ci k) (ha : 100 ≤ a) (hs : (K.1 a).1 = ci + 10) (hfin : ∀ r : vw_C, vwCl[ci]? = some r → (r.2.1 k).2.2.2 = true → X.1.name = "<init>" ∧ (r.2.1 k).1 = X.1.cls)
    (hty : fty ci k = .int ∨ (fty ci k = .boolean ∧ (n = 0 ∨ n = 1))) (hki : (k : Int) = ki) (kk : Ev γ X d mc ms (pc + 3) ls st K (wr V a ki n) Q) : Ev γ X d mc ms pc ls (vI n :: vR a :: st) K V Q := by
  subst hki
  refine ev_putG (K' := K) (V' := wr V a k n) hd hf0 ha hs hfin ?_ ?_ rfl rfl (fun _ _ _ => rfl) (fun b hb j => wr_ne (fun q => hb q.1)) (fun j => ?_) kk
  · rcases hty with h | ⟨h, h' | h'⟩ <;> rw [h] <;> first | rfl | (subst h'; rfl)
  · rcases hty with h | ⟨h, h' | h'⟩ <;> rw [h] <;> first | rfl | (subst h'; rfl)
  · by_cases hj : j = k
    · subst hj
      rw [if_pos rfl]
      rcases hty with h | ⟨h, -⟩ <;> rw [h] <;> simp [fV, wr, setr, up, cV]
    · rw [if_neg hj]
      have : wr V a k n a j = V a j := wr_ne (fun q => hj (Int.ofNat.inj q.2))
      unfold fV
      rw [this]
theorem wrR_self {a : Nat} {i : Int} {x : Nat} : (wrR K a i x).2.1 a i = x := by simp [wrR, setr, up]
theorem wrR_ne {a b : Nat} {i j : Int} {x : Nat} (h : ¬ (b = a ∧ j = i)) : (wrR K a i x).2.1 b j = K.2.1 b j := by
  unfold wrR setr
  by_cases hb : b = a
  · subst hb
    have : ¬ j = i := fun q => h ⟨rfl, q⟩
    simp [up, this]
  · simp [hb]
theorem fits_cR {t : FieldType} (h : isRT t = true) (a : Nat) : narrow t (cR γ a) = cR γ a ∧ fits t (cR γ a) = true := by
  unfold cR
  cases t <;> first | (simp [isRT] at h; done) | (split <;> exact ⟨rfl, rfl⟩)
theorem ev_putR {index ci k a b : Nat} {ki : Int} (hd : decode X.2.1 pc = .ok (.putfield index, 3)) (hf0 : fldW X.1.cls index ci k) (ha : 100 ≤ a) (hs : (K.1 a).1 = ci + 10) (hfin : ∀ r : vw_C, vwCl[ci]? = some r → (r.2.1 k).2.2.2 = true → X.1.name = "<init>" ∧ (r.2.1 k).1 = X.1.cls)
    (hty : isRT (fty ci k) = true) (hki : (k : Int) = ki) (kk : Ev γ X d mc ms (pc + 3) ls st (wrR K a ki b) V Q) : Ev γ X d mc ms pc ls (vR b :: vR a :: st) K V Q := by
  subst hki
  refine ev_putG (K' := wrR K a k b) (V' := V) hd hf0 ha hs hfin ((fits_cR hty b).1) ((fits_cR hty b).2) rfl rfl (fun c hb j => wrR_ne (fun q => hb q.1)) (fun _ _ _ => rfl) (fun j => ?_) kk
  by_cases hj : j = k
  · subst hj
    rw [if_pos rfl]
    have : (wrR K a j b).2.1 a j = b := wrR_self
    generalize fty ci j = ty at hty ⊢
    cases ty <;> first | (simp [isRT] at hty; done) | (simp only [fV, this, cV])
  · rw [if_neg hj]
    have : (wrR K a k b).2.1 a j = K.2.1 a j := wrR_ne (fun q => hj (Int.ofNat.inj q.2))
    unfold fV
    rw [this]
/-! arrays -/
theorem i_clamp {i : Int} (h : 0 ≤ i ∧ i < 2147483648) : (Int32.ofInt i).toNatClampNeg = i.toNat := by
  have e : (Int32.ofInt i).toInt = i := Int32.toInt_ofInt_of_le (by omega) (by omega)
  show (Int32.ofInt i).toInt.toNat = _
  rw [e]
theorem i_nneg {i : Int} (h : 0 ≤ i ∧ i < 2147483648) : ¬ Int32.ofInt i < 0 := by
  have e : (Int32.ofInt i).toInt = i := Int32.toInt_ofInt_of_le (by omega) (by omega)
  rw [Int32.lt_iff_toInt_lt, e]
  have : (0 : Int32).toInt = 0 := by decide
  rw [this]
  omega
theorem aO.at {a : Nat} {U : State} {H : Heap} {k n : Nat} (h : aO γ K V a U H k n) {i : Int} (hi : 0 ≤ i ∧ i < n) : ∃ cell : Cell, H[ad γ a]? = some cell ∧ U.isArrayOf cell (aTy k) ∧ cell.vm ≠ .unknown ∧ ¬ (Int32.ofInt i < 0 ∨ cell.slots.size ≤ (Int32.ofInt i).toNatClampNeg) ∧ cell.slots[(Int32.ofInt i).toNatClampNeg]? = some (eV γ K V k a i) := by
  obtain ⟨g0, cell, g1, g2, g3, g4, g5, g6, g7, g8⟩ := h
  have hr : 0 ≤ i ∧ i < 2147483648 := by omega
  refine ⟨cell, g1, g2, g3, ?_, ?_⟩
  · rw [i_clamp hr]
    intro q
    rcases q with q | q
    · exact i_nneg hr q
    · omega
  · rw [i_clamp hr, g6 _ (by omega), Int.toNat_of_nonneg hi.1]
theorem ev_iaload {a n : Nat} {i : Int} (hd : decode X.2.1 pc = .ok (.iaload, 1)) (hs : K.1 a = (1, n)) (hi : 0 ≤ i ∧ i < n) (kk : Ev γ X d mc ms (pc + 1) ls (vI (V a i) :: st) K V Q) : Ev γ X d mc ms pc ls (vI i :: vR a :: st) K V Q := by
  intro p l e s m args below meth c H locs als cells slots TC TS hc hh hl hf h1 h2
  show W _ _ _ _ _ _ _ _ _ _ _ _ _ _ _ (F0 m pc als (.int (Int32.ofInt i) :: cV γ (vR a) :: st.map (cV γ)))
  rw [cV_ref (hh.ne0 (by rw [hs]; exact Nat.succ_ne_zero _))]
  obtain ⟨cell, g1, g2, g3, g4, g5⟩ := (hh.arr hs (by decide) (by decide)).at hi
  exact W.iald hc.1 hc.2.1 g1 g2 g3 g4 g5 rfl rfl hd (kk p l e s m args below meth c H locs als cells slots TC TS hc hh hl hf h1 h2)
theorem ev_laload {a n : Nat} {i : Int} (hd : decode X.2.1 pc = .ok (.laload, 1)) (hs : K.1 a = (2, n)) (hi : 0 ≤ i ∧ i < n) (kk : Ev γ X d mc ms (pc + 1) ls (vL (V a i) :: st) K V Q) : Ev γ X d mc ms pc ls (vI i :: vR a :: st) K V Q := by
  intro p l e s m args below meth c H locs als cells slots TC TS hc hh hl hf h1 h2
  show W _ _ _ _ _ _ _ _ _ _ _ _ _ _ _ (F0 m pc als (.int (Int32.ofInt i) :: cV γ (vR a) :: st.map (cV γ)))
  rw [cV_ref (hh.ne0 (by rw [hs]; exact Nat.succ_ne_zero _))]
  obtain ⟨cell, g1, g2, g3, g4, g5⟩ := (hh.arr hs (by decide) (by decide)).at hi
  exact W.lald hc.1 hc.2.1 g1 g2 g3 g4 g5 rfl rfl hd (kk p l e s m args below meth c H locs als cells slots TC TS hc hh hl hf h1 h2)
theorem ev_zaload {a n : Nat} {i : Int} (hd : decode X.2.1 pc = .ok (.baload, 1)) (hs : K.1 a = (3, n)) (hi : 0 ≤ i ∧ i < n) (kk : Ev γ X d mc ms (pc + 1) ls (vI (V a i) :: st) K V Q) : Ev γ X d mc ms pc ls (vI i :: vR a :: st) K V Q := by
  intro p l e s m args below meth c H locs als cells slots TC TS hc hh hl hf h1 h2
  show W _ _ _ _ _ _ _ _ _ _ _ _ _ _ _ (F0 m pc als (.int (Int32.ofInt i) :: cV γ (vR a) :: st.map (cV γ)))
  rw [cV_ref (hh.ne0 (by rw [hs]; exact Nat.succ_ne_zero _))]
  obtain ⟨cell, g1, g2, g3, g4, g5⟩ := (hh.arr hs (by decide) (by decide)).at hi
  exact W.zald hc.1 hc.2.1 g1 g2 g3 g4 g5 rfl rfl hd (kk p l e s m args below meth c H locs als cells slots TC TS hc hh hl hf h1 h2)
theorem ev_baload {a n : Nat} {i : Int} (hd : decode X.2.1 pc = .ok (.baload, 1)) (hs : K.1 a = (4, n)) (hi : 0 ≤ i ∧ i < n) (kk : Ev γ X d mc ms (pc + 1) ls (vI (V a i) :: st) K V Q) : Ev γ X d mc ms pc ls (vI i :: vR a :: st) K V Q := by
  intro p l e s m args below meth c H locs als cells slots TC TS hc hh hl hf h1 h2
  show W _ _ _ _ _ _ _ _ _ _ _ _ _ _ _ (F0 m pc als (.int (Int32.ofInt i) :: cV γ (vR a) :: st.map (cV γ)))
  rw [cV_ref (hh.ne0 (by rw [hs]; exact Nat.succ_ne_zero _))]
  obtain ⟨cell, g1, g2, g3, g4, g5⟩ := (hh.arr hs (by decide) (by decide)).at hi
  exact W.bald hc.1 hc.2.1 g1 g2 g3 g4 g5 rfl rfl hd (kk p l e s m args below meth c H locs als cells slots TC TS hc hh hl hf h1 h2)
theorem aTy_ref {k : Nat} (h : 5 ≤ k) : (aTy k).isReference = true := by
  unfold aTy
  split <;> first | omega | rfl
theorem ev_aaload {a k n : Nat} {i : Int} (hd : decode X.2.1 pc = .ok (.aaload, 1)) (hs : K.1 a = (k, n)) (hk5 : 5 ≤ k) (hk7 : k ≤ 7) (hi : 0 ≤ i ∧ i < n) (kk : Ev γ X d mc ms (pc + 1) ls (vR (K.2.1 a i) :: st) K V Q) : Ev γ X d mc ms pc ls (vI i :: vR a :: st) K V Q := by
  intro p l e s m args below meth c H locs als cells slots TC TS hc hh hl hf h1 h2
  show W _ _ _ _ _ _ _ _ _ _ _ _ _ _ _ (F0 m pc als (.int (Int32.ofInt i) :: cV γ (vR a) :: st.map (cV γ)))
  rw [cV_ref (hh.ne0 (by rw [hs]; show k ≠ 0; omega))]
  obtain ⟨cell, g1, g2, g3, g4, g5⟩ := (hh.arr hs (by omega) hk7).at hi
  have e5 : eV γ K V k a i = cR γ (K.2.1 a i) := by
    unfold eV
    split <;> first | omega | rfl
  rw [e5] at g5
  exact W.aald hc.1 hc.2.1 g1 g2 (aTy_ref hk5) g3 g4 g5 rfl rfl hd (kk p l e s m args below meth c H locs als cells slots TC TS hc hh hl hf h1 h2)
theorem ev_alen {a k n : Nat} (hd : decode X.2.1 pc = .ok (.arraylength, 1)) (hs : K.1 a = (k, n)) (h1' : 1 ≤ k) (h7 : k ≤ 7) (kk : Ev γ X d mc ms (pc + 1) ls (vI n :: st) K V Q) : Ev γ X d mc ms pc ls (vR a :: st) K V Q := by
  intro p l e s m args below meth c H locs als cells slots TC TS hc hh hl hf h1 h2
  show W _ _ _ _ _ _ _ _ _ _ _ _ _ _ _ (F0 m pc als (cV γ (vR a) :: st.map (cV γ)))
  rw [cV_ref (hh.ne0 (by rw [hs]; show k ≠ 0; omega))]
  obtain ⟨g0, cell, g1, g2, g3, g4, g5, g6, g7, g8⟩ := hh.arr hs h1' h7
  exact W.alen (n := Int32.ofInt n) hc.1 hc.2.1 g1 g2 (by rw [g5]; rfl) rfl rfl hd (kk p l e s m args below meth c H locs als cells slots TC TS hc hh hl hf h1 h2)
/-- an array's cell behind a store -/
theorem aO.put {K' : Sk} {V' : Mm} {a : Nat} {U : State} {H' : Heap} {k n : Nat} {i : Int} {x : Value} {cell : Cell} (g0 : n < 2 ^ 31) (g2 : U.isArrayOf cell (aTy k)) (g3 : cell.vm ≠ .unknown) (g4 : n ≤ cell.slots.size) (g5 : cell.slots.size.toInt32 = Int32.ofNat n) (g6 : ∀ j : Nat, j < n → cell.slots[j]? = some (eV γ K V k a j)) (g7 : 5 ≤ k → va_RA U cell.cls (aTy k)) (g8 : 100 ≤ a → ∃ f, cell = arrV cell.cls n f) (hi : 0 ≤ i ∧ i < n) (e : H'[ad γ a]? = some (cell.setSlot (Int32.ofInt i).toNatClampNeg x)) (e4 : ∀ j : Nat, eV γ K' V' k a j = if (j : Int) = i then x else eV γ K V k a j) : aO γ K' V' a U H' k n := by
  have hr : 0 ≤ i ∧ i < 2147483648 := by omega
  rw [i_clamp hr] at e
  refine ⟨g0, _, e, g2, g3, by simpa [Cell.setSlot] using g4, by simpa [Cell.setSlot] using g5, fun j hj => ?_, g7, fun z => by
    obtain ⟨f, hf⟩ := g8 z
    exact ⟨updV f i.toNat x, by
      show cell.setSlot i.toNat x = arrV cell.cls n (updV f i.toNat x)
      rw [← arrV_store, ← hf]⟩⟩
  rw [e4]
  by_cases hj' : (j : Int) = i
  · rw [if_pos hj']
    have : j = i.toNat := by omega
    rw [this]
    exact Cell.slots_setSlot_self _ (by omega)
  · rw [if_neg hj', slot_ne _ _ (show i.toNat ≠ j by omega), g6 j hj]
theorem locs_put {locs : List Loc} {a k : Nat} (hf : ∀ q ∈ locs, gB γ ≤ q.base) (ha : 100 ≤ a) : ∀ q ∈ locs ++ [(⟨ad γ a, k⟩ : Loc)], gB γ ≤ q.base := by
  intro q hq
  rcases List.mem_append.mp hq with h | h
  · exact hf q h
  · cases List.mem_singleton.mp h
    exact ad_new ha
theorem ev_iastore {a n : Nat} {i x : Int} (hd : decode X.2.1 pc = .ok (.iastore, 1)) (ha : 100 ≤ a) (hs : K.1 a = (1, n)) (hi : 0 ≤ i ∧ i < n) (kk : Ev γ X d mc ms (pc + 1) ls st K (wr V a i x) Q) : Ev γ X d mc ms pc ls (vI x :: vI i :: vR a :: st) K V Q := by
  intro p l e s m args below meth c H locs als cells slots TC TS hc hh hl hf h1 h2
  show W _ _ _ _ _ _ _ _ _ _ _ _ _ _ _ (F0 m pc als (.int (Int32.ofInt x) :: .int (Int32.ofInt i) :: cV γ (vR a) :: st.map (cV γ)))
  rw [cV_ref (hh.ne0 (by rw [hs]; exact Nat.succ_ne_zero _))]
  obtain ⟨cell, g1, g2, g3, g4, g5⟩ := (hh.arr hs (by decide) (by decide)).at hi
  obtain ⟨f0, cell', f1, f2, f3, f4, f5, f6, f7, f8⟩ := hh.arr hs (by decide) (by decide)
  cases g1.symm.trans f1
  refine W.iast hc.1 hc.2.1 g1 g2 g3 g4 rfl rfl hd fun H' x1 x2 x3 => ?_
  refine kk p l e s m args below meth c H' _ als cells slots TC TS hc ?_ hl (locs_put hf ha) h1 h2
  refine hh.upd ha rfl rfl (fun _ _ _ => rfl) (fun b hb j => wr_ne (fun q => hb q.1)) x2 x3 ⟨fun z1 z2 => ?_, fun z1 => ?_, fun z1 => by rw [hs] at z1; cases z1⟩
  · rw [hs]
    refine aO.put f0 f2 f3 f4 f5 f6 f7 f8 hi x1 (fun j => ?_)
    by_cases hj : (j : Int) = i <;> simp [eV, wr, setr, up, hj]
  · rw [hs] at z1; exact absurd z1 (show ¬ 10 ≤ _ by omega)
theorem ev_lastore {a n : Nat} {i x : Int} (hd : decode X.2.1 pc = .ok (.lastore, 1)) (ha : 100 ≤ a) (hs : K.1 a = (2, n)) (hi : 0 ≤ i ∧ i < n) (kk : Ev γ X d mc ms (pc + 1) ls st K (wr V a i x) Q) : Ev γ X d mc ms pc ls (vL x :: vI i :: vR a :: st) K V Q := by
  intro p l e s m args below meth c H locs als cells slots TC TS hc hh hl hf h1 h2
  show W _ _ _ _ _ _ _ _ _ _ _ _ _ _ _ (F0 m pc als (.long (Int64.ofInt x) :: .int (Int32.ofInt i) :: cV γ (vR a) :: st.map (cV γ)))
  rw [cV_ref (hh.ne0 (by rw [hs]; exact Nat.succ_ne_zero _))]
  obtain ⟨cell, g1, g2, g3, g4, g5⟩ := (hh.arr hs (by decide) (by decide)).at hi
  obtain ⟨f0, cell', f1, f2, f3, f4, f5, f6, f7, f8⟩ := hh.arr hs (by decide) (by decide)
  cases g1.symm.trans f1
  refine W.last hc.1 hc.2.1 g1 g2 g3 g4 rfl rfl hd fun H' x1 x2 x3 => ?_
  refine kk p l e s m args below meth c H' _ als cells slots TC TS hc ?_ hl (locs_put hf ha) h1 h2
  refine hh.upd ha rfl rfl (fun _ _ _ => rfl) (fun b hb j => wr_ne (fun q => hb q.1)) x2 x3 ⟨fun z1 z2 => ?_, fun z1 => ?_, fun z1 => by rw [hs] at z1; cases z1⟩
  · rw [hs]
    refine aO.put f0 f2 f3 f4 f5 f6 f7 f8 hi x1 (fun j => ?_)
    by_cases hj : (j : Int) = i <;> simp [eV, wr, setr, up, hj]
  · rw [hs] at z1; exact absurd z1 (show ¬ 10 ≤ _ by omega)
theorem ev_zastore {a n : Nat} {i x : Int} (hd : decode X.2.1 pc = .ok (.bastore, 1)) (ha : 100 ≤ a) (hs : K.1 a = (3, n)) (hi : 0 ≤ i ∧ i < n) (hx : x = 0 ∨ x = 1) (kk : Ev γ X d mc ms (pc + 1) ls st K (wr V a i x) Q) : Ev γ X d mc ms pc ls (vI x :: vI i :: vR a :: st) K V Q := by
  intro p l e s m args below meth c H locs als cells slots TC TS hc hh hl hf h1 h2
  show W _ _ _ _ _ _ _ _ _ _ _ _ _ _ _ (F0 m pc als (.int (Int32.ofInt x) :: .int (Int32.ofInt i) :: cV γ (vR a) :: st.map (cV γ)))
  rw [cV_ref (hh.ne0 (by rw [hs]; exact Nat.succ_ne_zero _))]
  obtain ⟨cell, g1, g2, g3, g4, g5⟩ := (hh.arr hs (by decide) (by decide)).at hi
  obtain ⟨f0, cell', f1, f2, f3, f4, f5, f6, f7, f8⟩ := hh.arr hs (by decide) (by decide)
  cases g1.symm.trans f1
  refine W.zast hc.1 hc.2.1 g1 g2 g3 g4 rfl rfl hd fun H' x1 x2 x3 => ?_
  rw [z_narrow hx] at x1
  refine kk p l e s m args below meth c H' _ als cells slots TC TS hc ?_ hl (locs_put hf ha) h1 h2
  refine hh.upd ha rfl rfl (fun _ _ _ => rfl) (fun b hb j => wr_ne (fun q => hb q.1)) x2 x3 ⟨fun z1 z2 => ?_, fun z1 => ?_, fun z1 => by rw [hs] at z1; cases z1⟩
  · rw [hs]
    refine aO.put f0 f2 f3 f4 f5 f6 f7 f8 hi x1 (fun j => ?_)
    by_cases hj : (j : Int) = i <;> simp [eV, wr, setr, up, hj]
  · rw [hs] at z1; exact absurd z1 (show ¬ 10 ≤ _ by omega)
end HR

