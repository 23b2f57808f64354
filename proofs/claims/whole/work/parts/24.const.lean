/-! constants outside of every world: strings, the enum's constants, statics -/
abbrev ZE : Type := (String → Nat → Nat) × (Nat → Nat)
def strL : List (String × Nat × String) := [("PaperStorm", 80, "the pressure is not from 0 to 99"), ("PaperStorm", 122, "the direction is none of n, e, s and w"), ("PaperStorm", 131, "the threshold is not from 1 to 50"), ("PaperStorm", 142, "there is no cell to the right"), ("PaperStorm", 148, "there is no cell below"), ("PaperStorm", 177, "the weight is not from 0 to 3"), ("PaperStorm", 189, "no change from this weather would be left"), ("PaperStorm", 233, "the number of days is not from 1 to 3"), ("PaperStorm", 245, "there are 6 forecasts"), ("PaperStorm", 305, "the line has no such character"), ("PaperStorm", 319, "the character is not from 32 to 126"), ("PaperStorm", 322, "the text buffer contains 60 characters"), ("PaperStorm", 332, "the text is malformed"), ("PaperStorm", 343, "a command failed"), ("PaperStorm", 348, "no text was malformed"), ("PaperStorm", 350, "no command failed"), ("PaperStorm", 353, "nothing can be undone"), ("PaperStorm", 358, "there is no snapshot"), ("PaperStorm", 361, "there is no such cell"), ("PaperStorm", 366, "the fold is not from 1 to 3"), ("PaperStorm", 371, "there is no such weather"), ("PaperStorm", 373, "the number of days is not from 0 to 3"), ("PaperStorm", 376, "there is no such forecast"), ("PaperStorm", 380, "no forecast was scored"), ("PaperStorm$Climate", 19, "calm"), ("PaperStorm$Climate", 21, "breeze"), ("PaperStorm$Climate", 23, "gale"), ("PaperStorm$Climate", 25, "storm"), ("PaperStorm$Kind", 61, "set"), ("PaperStorm$Kind", 63, "ddn"), ("PaperStorm$Kind", 69, "row"), ("PaperStorm$Kind", 71, "d"), ("PaperStorm$Kind", 74, "column"), ("PaperStorm$Kind", 77, "shift "), ("PaperStorm$Kind", 79, "c"), ("PaperStorm$Kind", 82, "threshold"), ("PaperStorm$Kind", 84, "n"), ("PaperStorm$Kind", 87, "weight"), ("PaperStorm$Kind", 89, "ddd"), ("PaperStorm$Kind", 92, "issue"), ("PaperStorm$Kind", 95, "withdraw"), ("PaperStorm$Kind", 98, "observe"), ("PaperStorm$Kind", 101, "look"), ("PaperStorm$Kind", 103, ""), ("PaperStormModel", 192, "calm="), ("PaperStormModel", 194, " breeze="), ("PaperStormModel", 196, " gale="), ("PaperStormModel", 198, " storm="), ("PaperStormModel", 218, "ow"), ("PaperStormModel", 227, "olumn"), ("PaperStormModel", 229, "hreshold"), ("PaperStormModel", 231, "ssue"), ("PaperStormModel", 233, "bserve"), ("PaperStormModel", 235, "ook"), ("PaperStormModel", 237, "ift "), ("PaperStormModel", 242, "et"), ("PaperStormModel", 244, "thdraw"), ("PaperStormModel", 246, "eight")]
def strT : List (String × Nat × List Int32) := [("PaperStorm$Climate", 19, [99, 97, 108, 109]), ("PaperStorm$Climate", 21, [98, 114, 101, 101, 122, 101]), ("PaperStorm$Climate", 23, [103, 97, 108, 101]), ("PaperStorm$Climate", 25, [115, 116, 111, 114, 109]), ("PaperStorm$Kind", 61, [115, 101, 116]), ("PaperStorm$Kind", 63, [100, 100, 110]), ("PaperStorm$Kind", 69, [114, 111, 119]), ("PaperStorm$Kind", 71, [100]), ("PaperStorm$Kind", 74, [99, 111, 108, 117, 109, 110]), ("PaperStorm$Kind", 77, [115, 104, 105, 102, 116, 32]), ("PaperStorm$Kind", 79, [99]), ("PaperStorm$Kind", 82, [116, 104, 114, 101, 115, 104, 111, 108, 100]), ("PaperStorm$Kind", 84, [110]), ("PaperStorm$Kind", 87, [119, 101, 105, 103, 104, 116]), ("PaperStorm$Kind", 89, [100, 100, 100]), ("PaperStorm$Kind", 92, [105, 115, 115, 117, 101]), ("PaperStorm$Kind", 95, [119, 105, 116, 104, 100, 114, 97, 119]), ("PaperStorm$Kind", 98, [111, 98, 115, 101, 114, 118, 101]), ("PaperStorm$Kind", 101, [108, 111, 111, 107]), ("PaperStorm$Kind", 103, []), ("PaperStormModel", 192, [99, 97, 108, 109, 61]), ("PaperStormModel", 194, [32, 98, 114, 101, 101, 122, 101, 61]), ("PaperStormModel", 196, [32, 103, 97, 108, 101, 61]), ("PaperStormModel", 198, [32, 115, 116, 111, 114, 109, 61]), ("PaperStormModel", 218, [111, 119]), ("PaperStormModel", 227, [111, 108, 117, 109, 110]), ("PaperStormModel", 229, [104, 114, 101, 115, 104, 111, 108, 100]), ("PaperStormModel", 231, [115, 115, 117, 101]), ("PaperStormModel", 233, [98, 115, 101, 114, 118, 101]), ("PaperStormModel", 235, [111, 111, 107]), ("PaperStormModel", 237, [105, 102, 116, 32]), ("PaperStormModel", 242, [101, 116]), ("PaperStormModel", 244, [116, 104, 100, 114, 97, 119]), ("PaperStormModel", 246, [101, 105, 103, 104, 116])]
theorem st_X2_19 : (("PaperStorm$Climate", 19, [99, 97, 108, 109]) : String × Nat × List Int32) ∈ strT := by decide +kernel
theorem st_X2_21 : (("PaperStorm$Climate", 21, [98, 114, 101, 101, 122, 101]) : String × Nat × List Int32) ∈ strT := by decide +kernel
theorem st_X2_23 : (("PaperStorm$Climate", 23, [103, 97, 108, 101]) : String × Nat × List Int32) ∈ strT := by decide +kernel
theorem st_X2_25 : (("PaperStorm$Climate", 25, [115, 116, 111, 114, 109]) : String × Nat × List Int32) ∈ strT := by decide +kernel
theorem st_X7_61 : (("PaperStorm$Kind", 61, [115, 101, 116]) : String × Nat × List Int32) ∈ strT := by decide +kernel
theorem st_X7_63 : (("PaperStorm$Kind", 63, [100, 100, 110]) : String × Nat × List Int32) ∈ strT := by decide +kernel
theorem st_X7_69 : (("PaperStorm$Kind", 69, [114, 111, 119]) : String × Nat × List Int32) ∈ strT := by decide +kernel
theorem st_X7_71 : (("PaperStorm$Kind", 71, [100]) : String × Nat × List Int32) ∈ strT := by decide +kernel
theorem st_X7_74 : (("PaperStorm$Kind", 74, [99, 111, 108, 117, 109, 110]) : String × Nat × List Int32) ∈ strT := by decide +kernel
theorem st_X7_77 : (("PaperStorm$Kind", 77, [115, 104, 105, 102, 116, 32]) : String × Nat × List Int32) ∈ strT := by decide +kernel
theorem st_X7_79 : (("PaperStorm$Kind", 79, [99]) : String × Nat × List Int32) ∈ strT := by decide +kernel
theorem st_X7_82 : (("PaperStorm$Kind", 82, [116, 104, 114, 101, 115, 104, 111, 108, 100]) : String × Nat × List Int32) ∈ strT := by decide +kernel
theorem st_X7_84 : (("PaperStorm$Kind", 84, [110]) : String × Nat × List Int32) ∈ strT := by decide +kernel
theorem st_X7_87 : (("PaperStorm$Kind", 87, [119, 101, 105, 103, 104, 116]) : String × Nat × List Int32) ∈ strT := by decide +kernel
theorem st_X7_89 : (("PaperStorm$Kind", 89, [100, 100, 100]) : String × Nat × List Int32) ∈ strT := by decide +kernel
theorem st_X7_92 : (("PaperStorm$Kind", 92, [105, 115, 115, 117, 101]) : String × Nat × List Int32) ∈ strT := by decide +kernel
theorem st_X7_95 : (("PaperStorm$Kind", 95, [119, 105, 116, 104, 100, 114, 97, 119]) : String × Nat × List Int32) ∈ strT := by decide +kernel
theorem st_X7_98 : (("PaperStorm$Kind", 98, [111, 98, 115, 101, 114, 118, 101]) : String × Nat × List Int32) ∈ strT := by decide +kernel
theorem st_X7_101 : (("PaperStorm$Kind", 101, [108, 111, 111, 107]) : String × Nat × List Int32) ∈ strT := by decide +kernel
theorem st_X7_103 : (("PaperStorm$Kind", 103, []) : String × Nat × List Int32) ∈ strT := by decide +kernel
theorem st_X13_192 : (("PaperStormModel", 192, [99, 97, 108, 109, 61]) : String × Nat × List Int32) ∈ strT := by decide +kernel
theorem st_X13_194 : (("PaperStormModel", 194, [32, 98, 114, 101, 101, 122, 101, 61]) : String × Nat × List Int32) ∈ strT := by decide +kernel
theorem st_X13_196 : (("PaperStormModel", 196, [32, 103, 97, 108, 101, 61]) : String × Nat × List Int32) ∈ strT := by decide +kernel
theorem st_X13_198 : (("PaperStormModel", 198, [32, 115, 116, 111, 114, 109, 61]) : String × Nat × List Int32) ∈ strT := by decide +kernel
theorem st_X13_218 : (("PaperStormModel", 218, [111, 119]) : String × Nat × List Int32) ∈ strT := by decide +kernel
theorem st_X13_227 : (("PaperStormModel", 227, [111, 108, 117, 109, 110]) : String × Nat × List Int32) ∈ strT := by decide +kernel
theorem st_X13_229 : (("PaperStormModel", 229, [104, 114, 101, 115, 104, 111, 108, 100]) : String × Nat × List Int32) ∈ strT := by decide +kernel
theorem st_X13_231 : (("PaperStormModel", 231, [115, 115, 117, 101]) : String × Nat × List Int32) ∈ strT := by decide +kernel
theorem st_X13_233 : (("PaperStormModel", 233, [98, 115, 101, 114, 118, 101]) : String × Nat × List Int32) ∈ strT := by decide +kernel
theorem st_X13_235 : (("PaperStormModel", 235, [111, 111, 107]) : String × Nat × List Int32) ∈ strT := by decide +kernel
theorem st_X13_237 : (("PaperStormModel", 237, [105, 102, 116, 32]) : String × Nat × List Int32) ∈ strT := by decide +kernel
theorem st_X13_242 : (("PaperStormModel", 242, [101, 116]) : String × Nat × List Int32) ∈ strT := by decide +kernel
theorem st_X13_244 : (("PaperStormModel", 244, [116, 104, 100, 114, 97, 119]) : String × Nat × List Int32) ∈ strT := by decide +kernel
theorem st_X13_246 : (("PaperStormModel", 246, [101, 105, 103, 104, 116]) : String × Nat × List Int32) ∈ strT := by decide +kernel
theorem sl_X12_80 : (("PaperStorm", 80, "the pressure is not from 0 to 99") : String × Nat × String) ∈ strL := by decide +kernel
theorem sl_X12_122 : (("PaperStorm", 122, "the direction is none of n, e, s and w") : String × Nat × String) ∈ strL := by decide +kernel
theorem sl_X12_131 : (("PaperStorm", 131, "the threshold is not from 1 to 50") : String × Nat × String) ∈ strL := by decide +kernel
theorem sl_X12_142 : (("PaperStorm", 142, "there is no cell to the right") : String × Nat × String) ∈ strL := by decide +kernel
theorem sl_X12_148 : (("PaperStorm", 148, "there is no cell below") : String × Nat × String) ∈ strL := by decide +kernel
theorem sl_X12_177 : (("PaperStorm", 177, "the weight is not from 0 to 3") : String × Nat × String) ∈ strL := by decide +kernel
theorem sl_X12_189 : (("PaperStorm", 189, "no change from this weather would be left") : String × Nat × String) ∈ strL := by decide +kernel
theorem sl_X12_233 : (("PaperStorm", 233, "the number of days is not from 1 to 3") : String × Nat × String) ∈ strL := by decide +kernel
theorem sl_X12_245 : (("PaperStorm", 245, "there are 6 forecasts") : String × Nat × String) ∈ strL := by decide +kernel
theorem sl_X12_305 : (("PaperStorm", 305, "the line has no such character") : String × Nat × String) ∈ strL := by decide +kernel
theorem sl_X12_319 : (("PaperStorm", 319, "the character is not from 32 to 126") : String × Nat × String) ∈ strL := by decide +kernel
theorem sl_X12_322 : (("PaperStorm", 322, "the text buffer contains 60 characters") : String × Nat × String) ∈ strL := by decide +kernel
theorem sl_X12_332 : (("PaperStorm", 332, "the text is malformed") : String × Nat × String) ∈ strL := by decide +kernel
theorem sl_X12_343 : (("PaperStorm", 343, "a command failed") : String × Nat × String) ∈ strL := by decide +kernel
theorem sl_X12_348 : (("PaperStorm", 348, "no text was malformed") : String × Nat × String) ∈ strL := by decide +kernel
theorem sl_X12_350 : (("PaperStorm", 350, "no command failed") : String × Nat × String) ∈ strL := by decide +kernel
theorem sl_X12_353 : (("PaperStorm", 353, "nothing can be undone") : String × Nat × String) ∈ strL := by decide +kernel
theorem sl_X12_358 : (("PaperStorm", 358, "there is no snapshot") : String × Nat × String) ∈ strL := by decide +kernel
theorem sl_X12_361 : (("PaperStorm", 361, "there is no such cell") : String × Nat × String) ∈ strL := by decide +kernel
theorem sl_X12_366 : (("PaperStorm", 366, "the fold is not from 1 to 3") : String × Nat × String) ∈ strL := by decide +kernel
theorem sl_X12_371 : (("PaperStorm", 371, "there is no such weather") : String × Nat × String) ∈ strL := by decide +kernel
theorem sl_X12_373 : (("PaperStorm", 373, "the number of days is not from 0 to 3") : String × Nat × String) ∈ strL := by decide +kernel
theorem sl_X12_376 : (("PaperStorm", 376, "there is no such forecast") : String × Nat × String) ∈ strL := by decide +kernel
theorem sl_X12_380 : (("PaperStorm", 380, "no forecast was scored") : String × Nat × String) ∈ strL := by decide +kernel
theorem sl_X2_19 : (("PaperStorm$Climate", 19, "calm") : String × Nat × String) ∈ strL := by decide +kernel
theorem sl_X2_21 : (("PaperStorm$Climate", 21, "breeze") : String × Nat × String) ∈ strL := by decide +kernel
theorem sl_X2_23 : (("PaperStorm$Climate", 23, "gale") : String × Nat × String) ∈ strL := by decide +kernel
theorem sl_X2_25 : (("PaperStorm$Climate", 25, "storm") : String × Nat × String) ∈ strL := by decide +kernel
theorem sl_X7_61 : (("PaperStorm$Kind", 61, "set") : String × Nat × String) ∈ strL := by decide +kernel
theorem sl_X7_63 : (("PaperStorm$Kind", 63, "ddn") : String × Nat × String) ∈ strL := by decide +kernel
theorem sl_X7_69 : (("PaperStorm$Kind", 69, "row") : String × Nat × String) ∈ strL := by decide +kernel
theorem sl_X7_71 : (("PaperStorm$Kind", 71, "d") : String × Nat × String) ∈ strL := by decide +kernel
theorem sl_X7_74 : (("PaperStorm$Kind", 74, "column") : String × Nat × String) ∈ strL := by decide +kernel
theorem sl_X7_77 : (("PaperStorm$Kind", 77, "shift ") : String × Nat × String) ∈ strL := by decide +kernel
theorem sl_X7_79 : (("PaperStorm$Kind", 79, "c") : String × Nat × String) ∈ strL := by decide +kernel
theorem sl_X7_82 : (("PaperStorm$Kind", 82, "threshold") : String × Nat × String) ∈ strL := by decide +kernel
theorem sl_X7_84 : (("PaperStorm$Kind", 84, "n") : String × Nat × String) ∈ strL := by decide +kernel
theorem sl_X7_87 : (("PaperStorm$Kind", 87, "weight") : String × Nat × String) ∈ strL := by decide +kernel
theorem sl_X7_89 : (("PaperStorm$Kind", 89, "ddd") : String × Nat × String) ∈ strL := by decide +kernel
theorem sl_X7_92 : (("PaperStorm$Kind", 92, "issue") : String × Nat × String) ∈ strL := by decide +kernel
theorem sl_X7_95 : (("PaperStorm$Kind", 95, "withdraw") : String × Nat × String) ∈ strL := by decide +kernel
theorem sl_X7_98 : (("PaperStorm$Kind", 98, "observe") : String × Nat × String) ∈ strL := by decide +kernel
theorem sl_X7_101 : (("PaperStorm$Kind", 101, "look") : String × Nat × String) ∈ strL := by decide +kernel
theorem sl_X7_103 : (("PaperStorm$Kind", 103, "") : String × Nat × String) ∈ strL := by decide +kernel
theorem sl_X13_192 : (("PaperStormModel", 192, "calm=") : String × Nat × String) ∈ strL := by decide +kernel
theorem sl_X13_194 : (("PaperStormModel", 194, " breeze=") : String × Nat × String) ∈ strL := by decide +kernel
theorem sl_X13_196 : (("PaperStormModel", 196, " gale=") : String × Nat × String) ∈ strL := by decide +kernel
theorem sl_X13_198 : (("PaperStormModel", 198, " storm=") : String × Nat × String) ∈ strL := by decide +kernel
theorem sl_X13_218 : (("PaperStormModel", 218, "ow") : String × Nat × String) ∈ strL := by decide +kernel
theorem sl_X13_227 : (("PaperStormModel", 227, "olumn") : String × Nat × String) ∈ strL := by decide +kernel
theorem sl_X13_229 : (("PaperStormModel", 229, "hreshold") : String × Nat × String) ∈ strL := by decide +kernel
theorem sl_X13_231 : (("PaperStormModel", 231, "ssue") : String × Nat × String) ∈ strL := by decide +kernel
theorem sl_X13_233 : (("PaperStormModel", 233, "bserve") : String × Nat × String) ∈ strL := by decide +kernel
theorem sl_X13_235 : (("PaperStormModel", 235, "ook") : String × Nat × String) ∈ strL := by decide +kernel
theorem sl_X13_237 : (("PaperStormModel", 237, "ift ") : String × Nat × String) ∈ strL := by decide +kernel
theorem sl_X13_242 : (("PaperStormModel", 242, "et") : String × Nat × String) ∈ strL := by decide +kernel
theorem sl_X13_244 : (("PaperStormModel", 244, "thdraw") : String × Nat × String) ∈ strL := by decide +kernel
theorem sl_X13_246 : (("PaperStormModel", 246, "eight") : String × Nat × String) ∈ strL := by decide +kernel
theorem strT_len : ∀ x ∈ strT, x.2.2.length < 2 ^ 31 := by decide +kernel
def kwX (i : Nat) : String × Nat × List Int32 := ([("PaperStorm$Kind", 61, [115, 101, 116]), ("PaperStorm$Kind", 69, [114, 111, 119]), ("PaperStorm$Kind", 74, [99, 111, 108, 117, 109, 110]), ("PaperStorm$Kind", 77, [115, 104, 105, 102, 116, 32]), ("PaperStorm$Kind", 82, [116, 104, 114, 101, 115, 104, 111, 108, 100]), ("PaperStorm$Kind", 87, [119, 101, 105, 103, 104, 116]), ("PaperStorm$Kind", 92, [105, 115, 115, 117, 101]), ("PaperStorm$Kind", 95, [119, 105, 116, 104, 100, 114, 97, 119]), ("PaperStorm$Kind", 98, [111, 98, 115, 101, 114, 118, 101]), ("PaperStorm$Kind", 101, [108, 111, 111, 107])].getD i ("", 0, []))
def kpX (i : Nat) : String × Nat × List Int32 := ([("PaperStorm$Kind", 63, [100, 100, 110]), ("PaperStorm$Kind", 71, [100]), ("PaperStorm$Kind", 71, [100]), ("PaperStorm$Kind", 79, [99]), ("PaperStorm$Kind", 84, [110]), ("PaperStorm$Kind", 89, [100, 100, 100]), ("PaperStorm$Kind", 71, [100]), ("PaperStorm$Kind", 71, [100]), ("PaperStorm$Kind", 71, [100]), ("PaperStorm$Kind", 103, [])].getD i ("", 0, []))
theorem kwX_in : ∀ i, i < 10 → kwX i ∈ strT := by decide +kernel
theorem kpX_in : ∀ i, i < 10 → kpX i ∈ strT := by decide +kernel
def kindNm : List String := ["SET", "ROW", "COLUMN", "SHIFT", "THRESHOLD", "WEIGHT", "ISSUE", "WITHDRAW", "OBSERVE", "LOOK"]
def kindF : List (String × String × String × List Int32) := [("java/lang/Enum", "ordinal", "I", [0, 1, 2, 3, 4, 5, 6, 7, 8, 9])]
def kindD : String := "LPaperStorm$Kind;"
def swT : List Int32 := [1, 2, 3, 4, 5, 6, 7, 8, 9, 0]
def KS (z : ZE) (U : State) : Prop := ∀ x ∈ strL, vk_R x.1 x.2.1 x.2.2 (z.1 x.1 x.2.1) U
def CS (z : ZE) (A : Nat → Prop) (U : State) (H : Heap) : Prop :=
  JS A U H ∧ (vx_Zq Bundle.tN "UNASSIGNED_STACK" Bundle.steD A U H ∧ vx_Zq Bundle.tN "SUPPRESSED_SENTINEL" Bundle.listD A U H) ∧ (∀ x ∈ strT, StrC x.2.2 (z.1 x.1 x.2.1) A U H) ∧ va_En "PaperStorm$Kind" kindD kindNm kindF z.2 A U H ∧
  (va_Ef 10 "PaperStorm$Kind" "word" "Ljava/lang/String;" (fun i => .ref (z.1 (kwX i).1 (kwX i).2.1)) z.2 A U H ∧ va_Ef 10 "PaperStorm$Kind" "parameters" "Ljava/lang/String;" (fun i => .ref (z.1 (kpX i).1 (kpX i).2.1)) z.2 A U H) ∧
  (∃ t, va_Z "PaperStorm" "KINDS" "[LPaperStorm$Kind;" (.ref t) A U H ∧ va_T (.object "PaperStorm$Kind") t 10 (fun j => .ref (z.2 j)) A U H) ∧
  (∃ t, va_Z "PaperStorm$1" "$SwitchMap$PaperStorm$Kind" "[I" (.ref t) A U H ∧ va_T .int t 10 (fun j => .int (swT.getD j 0)) A U H)
theorem KS.same {z : ZE} {u U : State} (hv : u.vm = U.vm) (h : KS z u) : KS z U := fun x hx => (h x hx).same hv.symm
theorem KS.warm {z : ZE} {s U : State} (hW : s.WarmedH U.vm) (h : KS z s) : KS z U := fun x hx => (h x hx).warm hW
theorem CS.moved {z : ZE} {A : Nat → Prop} {u U : State} {H : Heap} (hvm : u.vm.Alike U.vm) (h : CS z A u H) : CS z A U H := by
  obtain ⟨h1, ⟨h2, h3⟩, h4, h5, ⟨h6, h7⟩, ⟨t, h8, h9⟩, ⟨t2, ha, hb⟩⟩ := h
  exact ⟨h1.moved hvm, ⟨h2.moved hvm, h3.moved hvm⟩, fun x hx => (h4 x hx).moved hvm, va_En.moved hvm h5, ⟨va_Ef.moved hvm h6, va_Ef.moved hvm h7⟩, ⟨t, va_Z.moved hvm h8, va_T.moved hvm h9⟩, ⟨t2, va_Z.moved hvm ha, va_T.moved hvm hb⟩⟩
theorem CS.kept {z : ZE} {A : Nat → Prop} {U : State} {H H1 : Heap} (h : CS z A U H) (hq : ∀ a : Nat, a < H.size → ¬ A a → H1[a]? = H[a]?) : CS z A U H1 := by
  obtain ⟨h1, ⟨h2, h3⟩, h4, h5, ⟨h6, h7⟩, ⟨t, h8, h9⟩, ⟨t2, ha, hb⟩⟩ := h
  exact ⟨h1.kept hq, ⟨h2.kept hq, h3.kept hq⟩, fun x hx => (h4 x hx).kept hq, va_En.kept h5 hq, ⟨va_Ef.kept h6 hq, va_Ef.kept h7 hq⟩, ⟨t, va_Z.kept h8 hq, va_T.kept h9 hq⟩, ⟨t2, va_Z.kept ha hq, va_T.kept hb hq⟩⟩
theorem CS.narrow {z : ZE} {A B : Nat → Prop} {U : State} {H : Heap} (h : CS z A U H) (hAB : ∀ q, B q → A q) : CS z B U H := by
  obtain ⟨h1, ⟨h2, h3⟩, h4, h5, ⟨h6, h7⟩, ⟨t, h8, h9⟩, ⟨t2, ha, hb⟩⟩ := h
  exact ⟨h1.narrow hAB, ⟨h2.narrow hAB, h3.narrow hAB⟩, fun x hx => (h4 x hx).narrow hAB, va_En.narrow h5 hAB, ⟨va_Ef.narrow h6 hAB, va_Ef.narrow h7 hAB⟩, ⟨t, va_Z.narrow h8 hAB, va_T.narrow h9 hAB⟩, ⟨t2, va_Z.narrow ha hAB, va_T.narrow hb hAB⟩⟩
/-- contracts over the constants too -/
def PreX (g : GE) (z : ZE) (av : List Value) (sz : Nat) (ws : va_W) : Array Value → State → Prop := va_Pc av (fun U => (U.heap.size = sz ∧ va_P g.1 vwCl ws U.heap ∧ KK g U ∧ va_D (fun _ => True) ws) ∧ KS z U ∧ CS z (va_A ws sz) U U.heap)
def XI (l : Launch) (y : MethodName) (wsl : List Cond) (rm : Room) (g : GE) (z : ZE) (av : List Value) (ws ws1 : va_W) (r : Int32) : Prop := ∀ sz : Nat, Met l y wsl rm (PreX g z av sz ws) (PoI g (va_A ws sz) ws1 r) 0 0 (va_A ws sz)
def XV (l : Launch) (y : MethodName) (wsl : List Cond) (rm : Room) (g : GE) (z : ZE) (av : List Value) (ws ws1 : va_W) : Prop := ∀ sz : Nat, Met l y wsl rm (PreX g z av sz ws) (PoV g (va_A ws sz) ws1) 0 0 (va_A ws sz)
def XA (l : Launch) (y : MethodName) (wsl : List Cond) (rm : Room) (g : GE) (z : ZE) (av : List Value) (ws ws1 : va_W) (r : Nat) : Prop := ∀ sz : Nat, Met l y wsl rm (PreX g z av sz ws) (PoA g (va_A ws sz) ws1 r) 0 0 (va_A ws sz)
/-- an answer that is an enum constant, or null -/
abbrev PoE (g : GE) (z : ZE) (A : Nat → Prop) (ws1 : va_W) (r : Option Nat) := va_Qe z.2 (S := Unit) (fun x _ => x = r) (fun _ t => EndB g ws1 t) A
def XE (l : Launch) (y : MethodName) (wsl : List Cond) (rm : Room) (g : GE) (z : ZE) (av : List Value) (ws ws1 : va_W) (r : Option Nat) : Prop := ∀ sz : Nat, Met l y wsl rm (PreX g z av sz ws) (PoE g z (va_A ws sz) ws1 r) 0 0 (va_A ws sz)
theorem PreX.blind {g : GE} {z : ZE} {av : List Value} {sz : Nat} {ws : va_W} : FrameBlind (PreX g z av sz ws) := fun a U f mk q => by
  obtain ⟨q0, ⟨q1, qP, qK, qD⟩, qs, qc⟩ := q
  exact ⟨q0, ⟨q1, qP, KK.same (u := U) (U := U.calling f mk a) rfl qK, qD⟩, KS.same (u := U) (U := U.calling f mk a) rfl qs, CS.moved (u := U) (U := U.calling f mk a) (Vm.Alike.refl U.vm) qc⟩
theorem PreX.of {g : GE} {z : ZE} {av : List Value} {A A0 : Nat → Prop} {ws : va_W} {s U : State} {H : Heap} {locs : List Loc} (hU : U.heap = H) (hW : s.WarmedH U.vm) (hP : va_P g.1 vwCl ws H) (hK : KK g s) (hD : va_D A ws) (hz : KS z s) (hC : CS z A0 s s.heap) (hS : va_S A0 s.heap H locs) (hF : ∀ q, va_A ws H.size q → A0 q) : PreX g z av H.size ws av.toArray U :=
  ⟨rfl, ⟨by rw [hU], by rw [hU]; exact hP, hK.warm hW, hD.weaken (fun _ _ _ _ => trivial)⟩, hz.warm hW, by rw [hU]; exact ((hC.kept hS.2.1).narrow hF).moved hW.alike⟩
section GOX
variable {p : Program} {l : Launch} {e : Env} {R : Room} {s : State} {m : MethodId} {args : Array Value} {below : List Frame} {meth : Method} {c : Code} {H : Heap} {locs : List Loc} {cells slots : Nat} {Q : State → Prop}
variable {cc : ByteArray} {own : String} {wsl : List Cond} {nL : Nat} {rt : Option FieldType} {g : GE} {z : ZE} {A : Nat → Prop} {world wc w1 world' : va_W} {is : List Nat}
variable {y : MethodName} {wsy : List Cond} {rm : Room} {bytes : ByteArray} {maxL index n pc : Nat} {ret : Option FieldType} {ls : Array Slot} {st rest As : List Value} {b : Nat}
theorem goVX {Qc : Array Value → State → Outcome → State → Prop} {mc ms : Nat} (E : En cc own wsl nL rt p s m args meth c) (hK : KK g s) (hz : KS z s) (hC : CS z A s s.heap) (hA : ∀ q, s.heap.size ≤ q → A q) (hW : Wo g A s H locs world) (is : List Nat) (hs : is.map (fun i => world[i]?) = wc.map some) (hn : va_nd is = true)
    (hM : Met l y wsy rm (PreX g z (.ref b :: As) H.size wc) Qc mc ms (va_A wc H.size)) {C : String} (cw : CallW R s args own C index y bytes maxL ret wsy rm mc ms n) {q : vw_C} {fs : List Value} {ci : Nat} (q0 : Nat) (he : wc[q0]? = some (b, .inr (ci, fs))) (hc : vwCl[ci]? = some q) (hCC : q.1 = C)
    (hsz : ls.size = nL) (hst : st = As.reverse ++ .ref b :: rest) (hl : As.length = n) (hroom : (rest.map fun v => v.category).sum ≤ 8) (hdg : decode cc pc = .ok (.invokevirtual index, 3)) (hf : cells + mc ≤ R.cells ∧ slots + ms ≤ R.slots) :
    va_Run p l e R s m args below meth c H locs cells slots mc ms (F0 m pc ls st) rest (Qc (Value.ref b :: As).toArray) (va_A wc H.size) := by
  obtain ⟨hx, hb, hr, hts, hown, hlocks, hml⟩ := E
  subst hCC
  exact va_runV ⟨hx, hb, hml, hown, hts⟩ hM cw ⟨PreX.blind, va_recv hK.1 (hW.subP hs) hc he, fun U hU hw => PreX.of hU hw (hW.subP hs) hK (hW.subD hs hn) hz hC hW.2.2 (hW.free hA hs)⟩ rfl hl hsz hst (lv_room hroom) hdg hf
theorem goSX {Qc : Array Value → State → Outcome → State → Prop} {mc ms : Nat} (E : En cc own wsl nL rt p s m args meth c) (hK : KK g s) (hz : KS z s) (hC : CS z A s s.heap) (hA : ∀ q, s.heap.size ≤ q → A q) (hW : Wo g A s H locs world) (is : List Nat) (hs : is.map (fun i => world[i]?) = wc.map some) (hn : va_nd is = true)
    (hM : Met l y wsy rm (PreX g z As H.size wc) Qc mc ms (va_A wc H.size)) (cw : CallB R s args own index y bytes maxL ret wsy rm mc ms n ∧ (Cond.static y).before args s = true)
    (hsz : ls.size = nL) (hst : st = As.reverse ++ rest) (hl : As.length = n) (hroom : (rest.map fun v => v.category).sum ≤ 8) (hdg : decode cc pc = .ok (.invokestatic index, 3)) (hf : cells + mc ≤ R.cells ∧ slots + ms ≤ R.slots) :
    va_Run p l e R s m args below meth c H locs cells slots mc ms (F0 m pc ls st) rest (Qc As.toArray) (va_A wc H.size) := by
  obtain ⟨hx, hb, hr, hts, hown, hlocks, hml⟩ := E
  exact va_runS ⟨hx, hb, hml, hown, hts⟩ hM cw ⟨PreX.blind, fun U hU hw => PreX.of hU hw (hW.subP hs) hK (hW.subD hs hn) hz hC hW.2.2 (hW.free hA hs)⟩ rfl hl hsz hst (lv_room hroom) hdg hf
theorem goE {r : Option Nat} {av : List Value} (hW : Wo g A s H locs world) (hA : ∀ q, s.heap.size ≤ q → A q) (hs : is.map (fun i => world[i]?) = wc.map some)
    (hR : va_Run p l e R s m args below meth c H locs cells slots 0 0 (F0 m pc ls st) rest (PoE g z (va_A wc H.size) w1 r av.toArray) (va_A wc H.size)) (hadr : w1.map Prod.fst = wc.map Prod.fst) (hnew : putW world is w1 = world')
    (kk : ∀ (H : Heap) (locs : List Loc), Wo g A s H locs world' → W p l e R s m args below meth c H locs cells slots Q (F0 m (pc + 3) ls (va_re z.2 r :: rest))) : W p l e R s m args below meth c H locs cells slots Q (F0 m pc ls st) :=
  va_calle hR hW.2.2 (fun q _ h => hW.free hA hs q h) (hW.free hA hs) (fun x u t H1 locs1 ht _ hx hB _ hk hS => hx ▸ kk H1 locs1 (goOn hW hA hs hnew hadr ht hB hk hS))
theorem Wo.same {H1 : Heap} {locs1 : List Loc} (hW : Wo g A s H locs world) (hk : ∀ q : Nat, q < H.size → H1[q]? = H[q]?) (hS : va_S A s.heap H1 locs1) : Wo g A s H1 locs1 world :=
  ⟨hW.1.kept (fun k q hq => hk q.1 (hW.1 k q hq).lt), hW.2.1, hS⟩
/-- String.length, String.charAt of a constant -/
theorem wLen (x : String × Nat × List Int32) (hxT : x ∈ strT) (E : En cc own wsl nL rt p s m args meth c) (hC : CS z A s s.heap) (hW : Wo g A s H locs world) (cw : CallW R s args own RJ0 index yJ0_length_8abf5 bytes maxL ret wsJ0_length_8abf5 { frames := 1, cells := 0, slots := 0, locals := 20 } 0 0 0)
    (hsz : ls.size = nL) (hroom : (rest.map fun v => v.category).sum ≤ 8) (hdg : decode cc pc = .ok (.invokevirtual index, 3)) (hf : cells + 0 ≤ R.cells ∧ slots + 0 ≤ R.slots)
    (kk : ∀ (H : Heap) (locs : List Loc), Wo g A s H locs world → W p l e R s m args below meth c H locs cells slots Q (F0 m (pc + 3) ls (.int (nI x.2.2.length) :: rest))) : W p l e R s m args below meth c H locs cells slots Q (F0 m pc ls (.ref (z.1 x.1 x.2.1) :: rest)) := by
  obtain ⟨hx, hb, hr, hts, hown, hlocks, hml⟩ := E
  exact goPV (fs := ⟨hx, hb, hml, hown, hts⟩) (As := []) (c_J0_length l (z.1 x.1 x.2.1) x.2.2) cw ((hC.2.2.1 x hxT).recv hW.2.2) (fun U f mk ar h => h.call U f mk ar) (fun U hU hw => StrB.at hC.1 (hC.2.2.1 x hxT) hW.2.2 hU hw) hW.2.2 hsz rfl rfl hroom hdg hf (fun H1 locs1 _ hk hS => kk H1 locs1 (hW.same hk hS))
theorem wChr (x : String × Nat × List Int32) (hxT : x ∈ strT) {i : Int32} (hi : ¬ (i < 0 ∨ x.2.2.length ≤ i.toNatClampNeg)) (E : En cc own wsl nL rt p s m args meth c) (hC : CS z A s s.heap) (hW : Wo g A s H locs world) (cw : CallW R s args own RJ0 index yJ0_charAt_5068e bytes maxL ret wsJ0_charAt_5068e { frames := 3, cells := 0, slots := 0, locals := 64 } 0 0 1)
    (hsz : ls.size = nL) (hroom : (rest.map fun v => v.category).sum ≤ 8) (hdg : decode cc pc = .ok (.invokevirtual index, 3)) (hf : cells + 0 ≤ R.cells ∧ slots + 0 ≤ R.slots)
    (kk : ∀ (H : Heap) (locs : List Loc), Wo g A s H locs world → W p l e R s m args below meth c H locs cells slots Q (F0 m (pc + 3) ls (.int (chAt x.2.2 i) :: rest))) : W p l e R s m args below meth c H locs cells slots Q (F0 m pc ls (.int i :: .ref (z.1 x.1 x.2.1) :: rest)) := by
  obtain ⟨hx, hb, hr, hts, hown, hlocks, hml⟩ := E
  exact goPV (fs := ⟨hx, hb, hml, hown, hts⟩) (As := [.int i]) (c_J0_charAt l (z.1 x.1 x.2.1) x.2.2 i (strT_len x hxT) hi) cw ((hC.2.2.1 x hxT).recv hW.2.2) (fun U f mk ar h => h.call U f mk ar) (fun U hU hw => StrB.at hC.1 (hC.2.2.1 x hxT) hW.2.2 hU hw) hW.2.2 hsz rfl rfl hroom hdg hf (fun H1 locs1 _ hk hS => kk H1 locs1 (hW.same hk hS))
theorem wLdcS {o tx : String} (hz : KS z s) (hxL : ((o, index, tx) : String × Nat × String) ∈ strL) (E : En cc o wsl nL rt p s m args meth c) (hdg : decode cc pc = .ok (.ldc index, 2))
    (kk : W p l e R s m args below meth c H locs cells slots Q (F0 m (pc + 2) ls (.ref (z.1 o index) :: rest))) : W p l e R s m args below meth c H locs cells slots Q (F0 m pc ls rest) :=
  va_ldcS E.1 E.2.1 E.2.2.2.2.1 (hz _ hxL) hdg kk
theorem mkXI {wsl' : List Cond} {av : List Value} {ws ws1 : va_W} {r : Int32} {maxL : Nat} {rt : FieldType} (hy : plainName y.cls = true) (hw : wsl = Cond.code y cc maxL (some rt) :: wsl') (hl : (lg_sl av).length ≤ maxL)
    (body : ∀ (p : Program) (e : Env) (s : State) (m : MethodId) (args : Array Value) (below : List Frame) (meth : Method) (c : Code) (A : Nat → Prop) (H : Heap) (locs : List Loc) (ls : Array Slot), En cc y.cls wsl maxL (some rt) p s m args meth c → KK g s → KS z s → CS z A s s.heap → (∀ q, s.heap.size ≤ q → A q) → Wo g A s H locs ws → lv_has ls maxL (lv_args 0 av) →
      W p l e (headSpec wsl rm).room s m args below meth c H locs 0 0 (MQ below (PoI g A ws1 r) args s 0 0 A) (F0 m 0 ls [])) : XI l y wsl rm g z av ws ws1 r := by
  intro sz
  refine Met.ofW (cc := cc) (maxL := maxL) (ret := some rt) hy hw ?_
  intro p e s m args below meth c s₁ B hml hv
  obtain ⟨rfl, ⟨hsz, hP, hK, hD0⟩, hKS, hC⟩ := hv
  subst hsz
  rw [lg_entry_eq]
  exact body p e s m _ below meth c _ s.heap [] _ ⟨B.exec, B.bytes, B.returns, atoms_spec (ws := wsl) B.pre, findClass_of_methodNamed B.named, B.notSynchronized, hml⟩ hK hKS hC (fun q h => Or.inr h) ⟨hP, hD0.self, va_S.rf⟩ (lv_entry av hl)
theorem mkXV {wsl' : List Cond} {av : List Value} {ws ws1 : va_W}  {maxL : Nat}  (hy : plainName y.cls = true) (hw : wsl = Cond.code y cc maxL (none) :: wsl') (hl : (lg_sl av).length ≤ maxL)
    (body : ∀ (p : Program) (e : Env) (s : State) (m : MethodId) (args : Array Value) (below : List Frame) (meth : Method) (c : Code) (A : Nat → Prop) (H : Heap) (locs : List Loc) (ls : Array Slot), En cc y.cls wsl maxL (none) p s m args meth c → KK g s → KS z s → CS z A s s.heap → (∀ q, s.heap.size ≤ q → A q) → Wo g A s H locs ws → lv_has ls maxL (lv_args 0 av) →
      W p l e (headSpec wsl rm).room s m args below meth c H locs 0 0 (MQ below (PoV g A ws1) args s 0 0 A) (F0 m 0 ls [])) : XV l y wsl rm g z av ws ws1 := by
  intro sz
  refine Met.ofW (cc := cc) (maxL := maxL) (ret := none) hy hw ?_
  intro p e s m args below meth c s₁ B hml hv
  obtain ⟨rfl, ⟨hsz, hP, hK, hD0⟩, hKS, hC⟩ := hv
  subst hsz
  rw [lg_entry_eq]
  exact body p e s m _ below meth c _ s.heap [] _ ⟨B.exec, B.bytes, B.returns, atoms_spec (ws := wsl) B.pre, findClass_of_methodNamed B.named, B.notSynchronized, hml⟩ hK hKS hC (fun q h => Or.inr h) ⟨hP, hD0.self, va_S.rf⟩ (lv_entry av hl)
theorem mkXA {wsl' : List Cond} {av : List Value} {ws ws1 : va_W} {r : Nat} {maxL : Nat} {rt : FieldType} (hy : plainName y.cls = true) (hw : wsl = Cond.code y cc maxL (some rt) :: wsl') (hl : (lg_sl av).length ≤ maxL)
    (body : ∀ (p : Program) (e : Env) (s : State) (m : MethodId) (args : Array Value) (below : List Frame) (meth : Method) (c : Code) (A : Nat → Prop) (H : Heap) (locs : List Loc) (ls : Array Slot), En cc y.cls wsl maxL (some rt) p s m args meth c → KK g s → KS z s → CS z A s s.heap → (∀ q, s.heap.size ≤ q → A q) → Wo g A s H locs ws → lv_has ls maxL (lv_args 0 av) →
      W p l e (headSpec wsl rm).room s m args below meth c H locs 0 0 (MQ below (PoA g A ws1 r) args s 0 0 A) (F0 m 0 ls [])) : XA l y wsl rm g z av ws ws1 r := by
  intro sz
  refine Met.ofW (cc := cc) (maxL := maxL) (ret := some rt) hy hw ?_
  intro p e s m args below meth c s₁ B hml hv
  obtain ⟨rfl, ⟨hsz, hP, hK, hD0⟩, hKS, hC⟩ := hv
  subst hsz
  rw [lg_entry_eq]
  exact body p e s m _ below meth c _ s.heap [] _ ⟨B.exec, B.bytes, B.returns, atoms_spec (ws := wsl) B.pre, findClass_of_methodNamed B.named, B.notSynchronized, hml⟩ hK hKS hC (fun q h => Or.inr h) ⟨hP, hD0.self, va_S.rf⟩ (lv_entry av hl)
theorem mkXE {wsl' : List Cond} {av : List Value} {ws ws1 : va_W} {r : Option Nat} {maxL : Nat} {rt : FieldType} (hy : plainName y.cls = true) (hw : wsl = Cond.code y cc maxL (some rt) :: wsl') (hl : (lg_sl av).length ≤ maxL)
    (body : ∀ (p : Program) (e : Env) (s : State) (m : MethodId) (args : Array Value) (below : List Frame) (meth : Method) (c : Code) (A : Nat → Prop) (H : Heap) (locs : List Loc) (ls : Array Slot), En cc y.cls wsl maxL (some rt) p s m args meth c → KK g s → KS z s → CS z A s s.heap → (∀ q, s.heap.size ≤ q → A q) → Wo g A s H locs ws → lv_has ls maxL (lv_args 0 av) →
      W p l e (headSpec wsl rm).room s m args below meth c H locs 0 0 (MQ below (PoE g z A ws1 r) args s 0 0 A) (F0 m 0 ls [])) : XE l y wsl rm g z av ws ws1 r := by
  intro sz
  refine Met.ofW (cc := cc) (maxL := maxL) (ret := some rt) hy hw ?_
  intro p e s m args below meth c s₁ B hml hv
  obtain ⟨rfl, ⟨hsz, hP, hK, hD0⟩, hKS, hC⟩ := hv
  subst hsz
  rw [lg_entry_eq]
  exact body p e s m _ below meth c _ s.heap [] _ ⟨B.exec, B.bytes, B.returns, atoms_spec (ws := wsl) B.pre, findClass_of_methodNamed B.named, B.notSynchronized, hml⟩ hK hKS hC (fun q h => Or.inr h) ⟨hP, hD0.self, va_S.rf⟩ (lv_entry av hl)
end GOX
