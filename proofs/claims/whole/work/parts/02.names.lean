/-! ## Names: written by program (wip/gen/names.py) out of the listing and the tables -/
def bw : List Cond := lw_tbl.filter goodWord
theorem bw_in {w : Cond} (h : w ∈ bw) : w ∈ lw_tbl := (List.mem_filter.mp h).1
theorem bw_good : GoodIn bw bw := fun w h => ⟨h, good_of_word (List.mem_filter.mp h).2⟩
theorem bw_of {w : Cond} (i : Nat) (h : lw_tbl[i]? = some w) (g : goodWord w = true) : w ∈ bw := List.mem_filter.mpr ⟨List.mem_of_getElem? h, g⟩
def RD : String := "PlaceDesk"
def FD : u_T := fun k => match k with
  | 0 => ("PlaceDesk", "values", "[J", true)
  | 1 => ("PlaceDesk", "kinds", "[I", true)
  | 2 => ("PlaceDesk", "elementCount", "I", false)
  | 3 => ("PlaceDesk", "things", "[LPlaceDesk$Thing;", true)
  | 4 => ("PlaceDesk", "thingCount", "I", false)
  | 5 => ("PlaceDesk", "waiting", "[I", true)
  | 6 => ("PlaceDesk", "waitingCount", "I", false)
  | 7 => ("PlaceDesk", "spots", "[LPlaceDesk$Spot;", true)
  | 8 => ("PlaceDesk", "spotCount", "I", false)
  | 9 => ("PlaceDesk", "snapshots", "[LPlaceDesk$Snapshot;", true)
  | _ => ("PlaceDesk", "snapshotCount", "I", false)
def tyD : Nat → FieldType := fun k => match k with
  | 0 => .array .long
  | 1 => .array .int
  | 2 => .int
  | 3 => .array (.object "PlaceDesk$Thing")
  | 4 => .int
  | 5 => .array .int
  | 6 => .int
  | 7 => .array (.object "PlaceDesk$Spot")
  | 8 => .int
  | 9 => .array (.object "PlaceDesk$Snapshot")
  | _ => .int
def RN : String := "PlaceDesk$Snapshot"
def FN : u_T := fun k => match k with
  | 0 => ("PlaceDesk$Snapshot", "remembered", "[J", true)
  | _ => ("PlaceDesk$Snapshot", "count", "I", false)
def tyN : Nat → FieldType := fun k => match k with
  | 0 => .array .long
  | _ => .int
def RS : String := "PlaceDesk$Spot"
def FS : u_T := fun k => match k with
  | 0 => ("PlaceDesk$Spot", "kind", "I", true)
  | 1 => ("PlaceDesk$Spot", "first", "I", true)
  | 2 => ("PlaceDesk$Spot", "width", "I", true)
  | _ => ("PlaceDesk$Spot", "little", "Z", true)
def tyS : Nat → FieldType := fun k => match k with
  | 0 => .int
  | 1 => .int
  | 2 => .int
  | _ => .boolean
def RT : String := "PlaceDesk$Thing"
def FT : u_T := fun k => match k with
  | 0 => ("PlaceDesk$Thing", "kind", "I", true)
  | 1 => ("PlaceDesk$Thing", "first", "I", true)
  | _ => ("PlaceDesk$Thing", "size", "I", true)
def tyT : Nat → FieldType := fun k => match k with
  | 0 => .int
  | 1 => .int
  | _ => .int
def RM : String := "PlaceDeskModel"
def FM : u_T := fun k => match k with
  | 0 => ("PlaceDeskModel", "element", "[J", true)
  | 1 => ("PlaceDeskModel", "elementKind", "[I", true)
  | 2 => ("PlaceDeskModel", "elements", "I", false)
  | 3 => ("PlaceDeskModel", "begins", "[I", true)
  | 4 => ("PlaceDeskModel", "sizes", "[I", true)
  | 5 => ("PlaceDeskModel", "kind", "[I", true)
  | 6 => ("PlaceDeskModel", "objects", "I", false)
  | 7 => ("PlaceDeskModel", "row", "[I", true)
  | 8 => ("PlaceDeskModel", "rowSize", "I", false)
  | 9 => ("PlaceDeskModel", "placeAt", "[I", true)
  | 10 => ("PlaceDeskModel", "placeKind", "[I", true)
  | 11 => ("PlaceDeskModel", "width", "[I", true)
  | 12 => ("PlaceDeskModel", "low", "[Z", true)
  | 13 => ("PlaceDeskModel", "places", "I", false)
  | 14 => ("PlaceDeskModel", "kept", "[J", true)
  | 15 => ("PlaceDeskModel", "keptSize", "[I", true)
  | 16 => ("PlaceDeskModel", "marks", "I", false)
  | _ => ("PlaceDeskModel", "thrown", "I", false)
def tyM : Nat → FieldType := fun k => match k with
  | 0 => .array .long
  | 1 => .array .int
  | 2 => .int
  | 3 => .array .int
  | 4 => .array .int
  | 5 => .array .int
  | 6 => .int
  | 7 => .array .int
  | 8 => .int
  | 9 => .array .int
  | 10 => .array .int
  | 11 => .array .int
  | 12 => .array .boolean
  | 13 => .int
  | 14 => .array .long
  | 15 => .array .int
  | 16 => .int
  | _ => .int
def RL : String := "PlaceDeskLaw"
abbrev cls5 : List vw_C := [(RD, FD, 11), (RT, FT, 3), (RS, FS, 4), (RN, FN, 2), (RM, FM, 18)]
abbrev cD_init : ByteArray := prog_1_method_1_code
abbrev yD_init : MethodName := ⟨RD, "<init>", "()V"⟩
abbrev cD_row : ByteArray := prog_1_method_2_code
abbrev yD_row : MethodName := ⟨RD, "row", "(II)I"⟩
abbrev cD_put : ByteArray := prog_1_method_3_code
abbrev yD_put : MethodName := ⟨RD, "put", "(I)Z"⟩
abbrev cD_instance : ByteArray := prog_1_method_4_code
abbrev yD_instance : MethodName := ⟨RD, "instance", "()I"⟩
abbrev cD_object : ByteArray := prog_1_method_5_code
abbrev yD_object : MethodName := ⟨RD, "object", "(II)I"⟩
abbrev cD_place : ByteArray := prog_1_method_6_code
abbrev yD_place : MethodName := ⟨RD, "place", "(II)I"⟩
abbrev cD_view : ByteArray := prog_1_method_7_code
abbrev yD_view : MethodName := ⟨RD, "view", "(IIIZ)I"⟩
abbrev cD_kindOf : ByteArray := prog_1_method_8_code
abbrev yD_kindOf : MethodName := ⟨RD, "kindOf", "(I)I"⟩
abbrev cD_act : ByteArray := prog_1_method_9_code
abbrev yD_act : MethodName := ⟨RD, "act", "(IIJJ)J"⟩
abbrev cD_copy : ByteArray := prog_1_method_10_code
abbrev yD_copy : MethodName := ⟨RD, "copy", "(IIIII)Z"⟩
abbrev cD_meet : ByteArray := prog_1_method_11_code
abbrev yD_meet : MethodName := ⟨RD, "meet", "(II)Z"⟩
abbrev cD_mark : ByteArray := prog_1_method_12_code
abbrev yD_mark : MethodName := ⟨RD, "mark", "()I"⟩
abbrev cD_back : ByteArray := prog_1_method_13_code
abbrev yD_back : MethodName := ⟨RD, "back", "(I)I"⟩
abbrev cD_changed : ByteArray := prog_1_method_14_code
abbrev yD_changed : MethodName := ⟨RD, "changed", "(I)I"⟩
abbrev cD_isKind : ByteArray := prog_1_method_15_code
abbrev yD_isKind : MethodName := ⟨RD, "isKind", "(I)Z"⟩
abbrev cD_widthOfView : ByteArray := prog_1_method_16_code
abbrev yD_widthOfView : MethodName := ⟨RD, "widthOfView", "(I)I"⟩
abbrev cD_isActOf : ByteArray := prog_1_method_17_code
abbrev yD_isActOf : MethodName := ⟨RD, "isActOf", "(II)Z"⟩
abbrev cD_isValue : ByteArray := prog_1_method_18_code
abbrev yD_isValue : MethodName := ⟨RD, "isValue", "(IJ)Z"⟩
abbrev cD_lowestBits : ByteArray := prog_1_method_19_code
abbrev yD_lowestBits : MethodName := ⟨RD, "lowestBits", "(IJ)J"⟩
abbrev cD_hasRoomFor : ByteArray := prog_1_method_20_code
abbrev yD_hasRoomFor : MethodName := ⟨RD, "hasRoomFor", "(I)Z"⟩
abbrev cD_addThing : ByteArray := prog_1_method_21_code
abbrev yD_addThing : MethodName := ⟨RD, "addThing", "(II)I"⟩
abbrev cD_addSpot : ByteArray := prog_1_method_22_code
abbrev yD_addSpot : MethodName := ⟨RD, "addSpot", "(IIIZ)I"⟩
abbrev cD_findThing : ByteArray := prog_1_method_23_code
abbrev yD_findThing : MethodName := ⟨RD, "findThing", "(I)LPlaceDesk$Thing;"⟩
abbrev cD_findSpot : ByteArray := prog_1_method_24_code
abbrev yD_findSpot : MethodName := ⟨RD, "findSpot", "(I)LPlaceDesk$Spot;"⟩
abbrev cD_findSnapshot : ByteArray := prog_1_method_25_code
abbrev yD_findSnapshot : MethodName := ⟨RD, "findSnapshot", "(I)LPlaceDesk$Snapshot;"⟩
abbrev cD_perform : ByteArray := prog_1_method_26_code
abbrev yD_perform : MethodName := ⟨RD, "perform", "(LPlaceDesk$Spot;IJJ)J"⟩
abbrev cD_read : ByteArray := prog_1_method_27_code
abbrev yD_read : MethodName := ⟨RD, "read", "(LPlaceDesk$Spot;)J"⟩
abbrev cD_write : ByteArray := prog_1_method_28_code
abbrev yD_write : MethodName := ⟨RD, "write", "(LPlaceDesk$Spot;J)V"⟩
abbrev cM_init : ByteArray := prog_6_method_1_code
abbrev yM_init : MethodName := ⟨RM, "<init>", "()V"⟩
abbrev cM_thrown : ByteArray := prog_6_method_2_code
abbrev yM_thrown : MethodName := ⟨RM, "thrown", "()I"⟩
abbrev cM_isKind : ByteArray := prog_6_method_3_code
abbrev yM_isKind : MethodName := ⟨RM, "isKind", "(I)Z"⟩
abbrev cM_newObject : ByteArray := prog_6_method_4_code
abbrev yM_newObject : MethodName := ⟨RM, "newObject", "(II)I"⟩
abbrev cM_row : ByteArray := prog_6_method_5_code
abbrev yM_row : MethodName := ⟨RM, "row", "(II)I"⟩
abbrev cM_put : ByteArray := prog_6_method_6_code
abbrev yM_put : MethodName := ⟨RM, "put", "(I)Z"⟩
abbrev cM_instance : ByteArray := prog_6_method_7_code
abbrev yM_instance : MethodName := ⟨RM, "instance", "()I"⟩
abbrev cM_isObject : ByteArray := prog_6_method_8_code
abbrev yM_isObject : MethodName := ⟨RM, "isObject", "(I)Z"⟩
abbrev cM_object : ByteArray := prog_6_method_9_code
abbrev yM_object : MethodName := ⟨RM, "object", "(II)I"⟩
abbrev cM_newPlace : ByteArray := prog_6_method_10_code
abbrev yM_newPlace : MethodName := ⟨RM, "newPlace", "(IIIZ)I"⟩
abbrev cM_place : ByteArray := prog_6_method_11_code
abbrev yM_place : MethodName := ⟨RM, "place", "(II)I"⟩
abbrev cM_view : ByteArray := prog_6_method_12_code
abbrev yM_view : MethodName := ⟨RM, "view", "(IIIZ)I"⟩
abbrev cM_isPlace : ByteArray := prog_6_method_13_code
abbrev yM_isPlace : MethodName := ⟨RM, "isPlace", "(I)Z"⟩
abbrev cM_kindOf : ByteArray := prog_6_method_14_code
abbrev yM_kindOf : MethodName := ⟨RM, "kindOf", "(I)I"⟩
abbrev cM_as : ByteArray := prog_6_method_15_code
abbrev yM_as : MethodName := ⟨RM, "as", "(IJ)J"⟩
abbrev cM_isValue : ByteArray := prog_6_method_16_code
abbrev yM_isValue : MethodName := ⟨RM, "isValue", "(IJ)Z"⟩
abbrev cM_get : ByteArray := prog_6_method_17_code
abbrev yM_get : MethodName := ⟨RM, "get", "(I)J"⟩
abbrev cM_set : ByteArray := prog_6_method_18_code
abbrev yM_set : MethodName := ⟨RM, "set", "(IJ)V"⟩
abbrev cM_act : ByteArray := prog_6_method_19_code
abbrev yM_act : MethodName := ⟨RM, "act", "(IIJJ)J"⟩
abbrev cM_copy : ByteArray := prog_6_method_20_code
abbrev yM_copy : MethodName := ⟨RM, "copy", "(IIIII)Z"⟩
abbrev cM_meet : ByteArray := prog_6_method_21_code
abbrev yM_meet : MethodName := ⟨RM, "meet", "(II)Z"⟩
abbrev cM_mark : ByteArray := prog_6_method_22_code
abbrev yM_mark : MethodName := ⟨RM, "mark", "()I"⟩
abbrev cM_differ : ByteArray := prog_6_method_23_code
abbrev yM_differ : MethodName := ⟨RM, "differ", "(I)I"⟩
abbrev cM_back : ByteArray := prog_6_method_24_code
abbrev yM_back : MethodName := ⟨RM, "back", "(I)I"⟩
abbrev cM_changed : ByteArray := prog_6_method_25_code
abbrev yM_changed : MethodName := ⟨RM, "changed", "(I)I"⟩
abbrev cN_init : ByteArray := prog_2_method_1_code
abbrev yN_init : MethodName := ⟨RN, "<init>", "()V"⟩
abbrev cN_remember : ByteArray := prog_2_method_2_code
abbrev yN_remember : MethodName := ⟨RN, "remember", "([JI)V"⟩
abbrev cN_differences : ByteArray := prog_2_method_3_code
abbrev yN_differences : MethodName := ⟨RN, "differences", "([J)I"⟩
abbrev cN_restore : ByteArray := prog_2_method_4_code
abbrev yN_restore : MethodName := ⟨RN, "restore", "([J)V"⟩
abbrev cS_init : ByteArray := prog_3_method_1_code
abbrev yS_init : MethodName := ⟨RS, "<init>", "(IIIZ)V"⟩
abbrev cS_indexOfByte : ByteArray := prog_3_method_2_code
abbrev yS_indexOfByte : MethodName := ⟨RS, "indexOfByte", "(I)I"⟩
abbrev cS_overlaps : ByteArray := prog_3_method_3_code
abbrev yS_overlaps : MethodName := ⟨RS, "overlaps", "(LPlaceDesk$Spot;)Z"⟩
abbrev cT_init : ByteArray := prog_4_method_1_code
abbrev yT_init : MethodName := ⟨RT, "<init>", "(III)V"⟩
abbrev cT_holds : ByteArray := prog_4_method_2_code
abbrev yT_holds : MethodName := ⟨RT, "holds", "(II)Z"⟩
abbrev cL_act : ByteArray := method_3_code
abbrev yL_act : MethodName := ⟨RL, "act", "(LPlaceDesk;IIJJ[J)I"⟩
abbrev cL_law : ByteArray := code
abbrev yL_law : MethodName := ⟨RL, "law", "([I)Z"⟩
theorem bw_0 : (Jvm.Cond.initialized "PlaceDeskLaw") ∈ bw := bw_of 19 (by decide +kernel) (by decide +kernel)
theorem bw_1 : (Jvm.Cond.initialized "PlaceDesk") ∈ bw := bw_of 20 (by decide +kernel) (by decide +kernel)
theorem bw_2 : (Jvm.Cond.initialized "PlaceDeskModel") ∈ bw := bw_of 21 (by decide +kernel) (by decide +kernel)
theorem bw_3 : (Jvm.Cond.initialized "PlaceDesk$Thing") ∈ bw := bw_of 22 (by decide +kernel) (by decide +kernel)
theorem bw_4 : (Jvm.Cond.initialized "java/lang/System") ∈ bw := bw_of 23 (by decide +kernel) (by decide +kernel)
theorem bw_5 : (Jvm.Cond.initialized "PlaceDesk$Spot") ∈ bw := bw_of 24 (by decide +kernel) (by decide +kernel)
theorem bw_6 : (Jvm.Cond.initialized "java/lang/Throwable") ∈ bw := bw_of 25 (by decide +kernel) (by decide +kernel)
theorem bw_7 : (Jvm.Cond.initialized "java/lang/Exception") ∈ bw := bw_of 26 (by decide +kernel) (by decide +kernel)
theorem bw_8 : (Jvm.Cond.initialized "java/lang/RuntimeException") ∈ bw := bw_of 27 (by decide +kernel) (by decide +kernel)
theorem bw_9 : (Jvm.Cond.initialized "java/lang/IllegalArgumentException") ∈ bw := bw_of 28 (by decide +kernel) (by decide +kernel)
theorem bw_10 : (Jvm.Cond.initialized "java/lang/Math") ∈ bw := bw_of 29 (by decide +kernel) (by decide +kernel)
theorem bw_11 : (Jvm.Cond.initialized "PlaceDesk$Snapshot") ∈ bw := bw_of 30 (by decide +kernel) (by decide +kernel)
theorem bw_12 : (Jvm.Cond.classLink "PlaceDeskLaw" (8 : Nat) "PlaceDesk") ∈ bw := bw_of 31 (by decide +kernel) (by decide +kernel)
theorem bw_13 : (Jvm.Cond.instantiable "PlaceDesk" (11 : Nat)) ∈ bw := bw_of 32 (by decide +kernel) (by decide +kernel)
theorem bw_14 : (Jvm.Cond.methodLink "PlaceDeskLaw" (15 : Nat) ({ cls := "PlaceDesk", name := "<init>", desc := "()V" } : Jvm.MethodName)) ∈ bw := bw_of 33 (by decide +kernel) (by decide +kernel)
theorem bw_15 : (Jvm.Cond.instanceMethod ({ cls := "PlaceDesk", name := "<init>", desc := "()V" } : Jvm.MethodName)) ∈ bw := bw_of 34 (by decide +kernel) (by decide +kernel)
theorem bw_16 : (Jvm.Cond.code ({ cls := "PlaceDesk", name := "<init>", desc := "()V" } : Jvm.MethodName) prog_1_method_1_code (1 : Nat) (Option.none : Option Jvm.ClassFile.FieldType)) ∈ bw := bw_of 35 (by decide +kernel) (by decide +kernel)
theorem bw_17 : (Jvm.Cond.methodLink "PlaceDesk" (1 : Nat) ({ cls := "java/lang/Object", name := "<init>", desc := "()V" } : Jvm.MethodName)) ∈ bw := bw_of 36 (by decide +kernel) (by decide +kernel)
theorem bw_18 : (Jvm.Cond.instanceMethod ({ cls := "java/lang/Object", name := "<init>", desc := "()V" } : Jvm.MethodName)) ∈ bw := bw_of 37 (by decide +kernel) (by decide +kernel)
theorem bw_19 : (Jvm.Cond.code ({ cls := "java/lang/Object", name := "<init>", desc := "()V" } : Jvm.MethodName) object_method_1_code (1 : Nat) (Option.none : Option Jvm.ClassFile.FieldType)) ∈ bw := bw_of 38 (by decide +kernel) (by decide +kernel)
theorem bw_20 : (Jvm.Cond.classLink "PlaceDesk" (21 : Nat) "PlaceDesk$Thing") ∈ bw := bw_of 39 (by decide +kernel) (by decide +kernel)
theorem bw_22 : (Jvm.Cond.classLink "PlaceDesk" (36 : Nat) "PlaceDesk$Spot") ∈ bw := bw_of 41 (by decide +kernel) (by decide +kernel)
theorem bw_24 : (Jvm.Cond.classLink "PlaceDesk" (45 : Nat) "PlaceDesk$Snapshot") ∈ bw := bw_of 43 (by decide +kernel) (by decide +kernel)
theorem bw_26 : (Jvm.Cond.fieldLink "PlaceDesk" (9 : Nat) "PlaceDesk" "values" "[J") ∈ bw := bw_of 45 (by decide +kernel) (by decide +kernel)
theorem bw_27 : (Jvm.Cond.fieldLink "PlaceDesk" (13 : Nat) "PlaceDesk" "kinds" "[I") ∈ bw := bw_of 46 (by decide +kernel) (by decide +kernel)
theorem bw_28 : (Jvm.Cond.fieldLink "PlaceDesk" (17 : Nat) "PlaceDesk" "elementCount" "I") ∈ bw := bw_of 47 (by decide +kernel) (by decide +kernel)
theorem bw_29 : (Jvm.Cond.fieldLink "PlaceDesk" (23 : Nat) "PlaceDesk" "things" "[LPlaceDesk$Thing;") ∈ bw := bw_of 48 (by decide +kernel) (by decide +kernel)
theorem bw_30 : (Jvm.Cond.fieldLink "PlaceDesk" (27 : Nat) "PlaceDesk" "thingCount" "I") ∈ bw := bw_of 49 (by decide +kernel) (by decide +kernel)
theorem bw_31 : (Jvm.Cond.fieldLink "PlaceDesk" (30 : Nat) "PlaceDesk" "waiting" "[I") ∈ bw := bw_of 50 (by decide +kernel) (by decide +kernel)
theorem bw_32 : (Jvm.Cond.fieldLink "PlaceDesk" (33 : Nat) "PlaceDesk" "waitingCount" "I") ∈ bw := bw_of 51 (by decide +kernel) (by decide +kernel)
theorem bw_33 : (Jvm.Cond.fieldLink "PlaceDesk" (38 : Nat) "PlaceDesk" "spots" "[LPlaceDesk$Spot;") ∈ bw := bw_of 52 (by decide +kernel) (by decide +kernel)
theorem bw_34 : (Jvm.Cond.fieldLink "PlaceDesk" (42 : Nat) "PlaceDesk" "spotCount" "I") ∈ bw := bw_of 53 (by decide +kernel) (by decide +kernel)
theorem bw_35 : (Jvm.Cond.fieldLink "PlaceDesk" (47 : Nat) "PlaceDesk" "snapshots" "[LPlaceDesk$Snapshot;") ∈ bw := bw_of 54 (by decide +kernel) (by decide +kernel)
theorem bw_36 : (Jvm.Cond.fieldLink "PlaceDesk" (51 : Nat) "PlaceDesk" "snapshotCount" "I") ∈ bw := bw_of 55 (by decide +kernel) (by decide +kernel)
theorem bw_37 : (Jvm.Cond.laysFinal "PlaceDesk" "PlaceDesk" "values" "[J") ∈ bw := bw_of 56 (by decide +kernel) (by decide +kernel)
theorem bw_38 : (Jvm.Cond.soleField "PlaceDesk" "values") ∈ bw := bw_of 57 (by decide +kernel) (by decide +kernel)
theorem bw_39 : (Jvm.Cond.laysFinal "PlaceDesk" "PlaceDesk" "kinds" "[I") ∈ bw := bw_of 58 (by decide +kernel) (by decide +kernel)
theorem bw_40 : (Jvm.Cond.soleField "PlaceDesk" "kinds") ∈ bw := bw_of 59 (by decide +kernel) (by decide +kernel)
theorem bw_41 : (Jvm.Cond.lays "PlaceDesk" "PlaceDesk" "elementCount" "I") ∈ bw := bw_of 60 (by decide +kernel) (by decide +kernel)
theorem bw_42 : (Jvm.Cond.soleField "PlaceDesk" "elementCount") ∈ bw := bw_of 61 (by decide +kernel) (by decide +kernel)
theorem bw_43 : (Jvm.Cond.laysFinal "PlaceDesk" "PlaceDesk" "things" "[LPlaceDesk$Thing;") ∈ bw := bw_of 62 (by decide +kernel) (by decide +kernel)
theorem bw_44 : (Jvm.Cond.soleField "PlaceDesk" "things") ∈ bw := bw_of 63 (by decide +kernel) (by decide +kernel)
theorem bw_45 : (Jvm.Cond.lays "PlaceDesk" "PlaceDesk" "thingCount" "I") ∈ bw := bw_of 64 (by decide +kernel) (by decide +kernel)
theorem bw_46 : (Jvm.Cond.soleField "PlaceDesk" "thingCount") ∈ bw := bw_of 65 (by decide +kernel) (by decide +kernel)
theorem bw_47 : (Jvm.Cond.laysFinal "PlaceDesk" "PlaceDesk" "waiting" "[I") ∈ bw := bw_of 66 (by decide +kernel) (by decide +kernel)
theorem bw_48 : (Jvm.Cond.soleField "PlaceDesk" "waiting") ∈ bw := bw_of 67 (by decide +kernel) (by decide +kernel)
theorem bw_49 : (Jvm.Cond.lays "PlaceDesk" "PlaceDesk" "waitingCount" "I") ∈ bw := bw_of 68 (by decide +kernel) (by decide +kernel)
theorem bw_50 : (Jvm.Cond.soleField "PlaceDesk" "waitingCount") ∈ bw := bw_of 69 (by decide +kernel) (by decide +kernel)
theorem bw_51 : (Jvm.Cond.laysFinal "PlaceDesk" "PlaceDesk" "spots" "[LPlaceDesk$Spot;") ∈ bw := bw_of 70 (by decide +kernel) (by decide +kernel)
theorem bw_52 : (Jvm.Cond.soleField "PlaceDesk" "spots") ∈ bw := bw_of 71 (by decide +kernel) (by decide +kernel)
theorem bw_53 : (Jvm.Cond.lays "PlaceDesk" "PlaceDesk" "spotCount" "I") ∈ bw := bw_of 72 (by decide +kernel) (by decide +kernel)
theorem bw_54 : (Jvm.Cond.soleField "PlaceDesk" "spotCount") ∈ bw := bw_of 73 (by decide +kernel) (by decide +kernel)
theorem bw_55 : (Jvm.Cond.laysFinal "PlaceDesk" "PlaceDesk" "snapshots" "[LPlaceDesk$Snapshot;") ∈ bw := bw_of 74 (by decide +kernel) (by decide +kernel)
theorem bw_56 : (Jvm.Cond.soleField "PlaceDesk" "snapshots") ∈ bw := bw_of 75 (by decide +kernel) (by decide +kernel)
theorem bw_57 : (Jvm.Cond.lays "PlaceDesk" "PlaceDesk" "snapshotCount" "I") ∈ bw := bw_of 76 (by decide +kernel) (by decide +kernel)
theorem bw_58 : (Jvm.Cond.soleField "PlaceDesk" "snapshotCount") ∈ bw := bw_of 77 (by decide +kernel) (by decide +kernel)
theorem bw_59 : (Jvm.Cond.superclass "PlaceDesk" "java/lang/Object") ∈ bw := bw_of 78 (by decide +kernel) (by decide +kernel)
theorem bw_60 : (Jvm.Cond.arrayClass Jvm.ClassFile.FieldType.long) ∈ bw := bw_of 79 (by decide +kernel) (by decide +kernel)
theorem bw_61 : (Jvm.Cond.arrayClass Jvm.ClassFile.FieldType.int) ∈ bw := bw_of 80 (by decide +kernel) (by decide +kernel)
theorem bw_62 : (Jvm.Cond.methodLink "PlaceDeskLaw" (19 : Nat) ({ cls := "PlaceDesk", name := "row", desc := "(II)I" } : Jvm.MethodName)) ∈ bw := bw_of 81 (by decide +kernel) (by decide +kernel)
theorem bw_63 : (Jvm.Cond.instanceMethod ({ cls := "PlaceDesk", name := "row", desc := "(II)I" } : Jvm.MethodName)) ∈ bw := bw_of 82 (by decide +kernel) (by decide +kernel)
theorem bw_64 : (Jvm.Cond.selects "PlaceDesk" ({ cls := "PlaceDesk", name := "row", desc := "(II)I" } : Jvm.MethodName) ({ cls := "PlaceDesk", name := "row", desc := "(II)I" } : Jvm.MethodName)) ∈ bw := bw_of 83 (by decide +kernel) (by decide +kernel)
theorem bw_65 : (Jvm.Cond.code ({ cls := "PlaceDesk", name := "row", desc := "(II)I" } : Jvm.MethodName) prog_1_method_2_code (4 : Nat) (Option.some Jvm.ClassFile.FieldType.int)) ∈ bw := bw_of 84 (by decide +kernel) (by decide +kernel)
theorem bw_66 : (Jvm.Cond.methodLink "PlaceDesk" (54 : Nat) ({ cls := "PlaceDesk", name := "isKind", desc := "(I)Z" } : Jvm.MethodName)) ∈ bw := bw_of 85 (by decide +kernel) (by decide +kernel)
theorem bw_67 : (Jvm.Cond.static ({ cls := "PlaceDesk", name := "isKind", desc := "(I)Z" } : Jvm.MethodName)) ∈ bw := bw_of 86 (by decide +kernel) (by decide +kernel)
theorem bw_68 : (Jvm.Cond.code ({ cls := "PlaceDesk", name := "isKind", desc := "(I)Z" } : Jvm.MethodName) prog_1_method_15_code (1 : Nat) (Option.some Jvm.ClassFile.FieldType.boolean)) ∈ bw := bw_of 87 (by decide +kernel) (by decide +kernel)
theorem bw_69 : (Jvm.Cond.methodLink "PlaceDesk" (58 : Nat) ({ cls := "PlaceDesk", name := "hasRoomFor", desc := "(I)Z" } : Jvm.MethodName)) ∈ bw := bw_of 88 (by decide +kernel) (by decide +kernel)
theorem bw_71 : (Jvm.Cond.instanceMethod ({ cls := "PlaceDesk", name := "hasRoomFor", desc := "(I)Z" } : Jvm.MethodName)) ∈ bw := bw_of 90 (by decide +kernel) (by decide +kernel)
theorem bw_72 : (Jvm.Cond.code ({ cls := "PlaceDesk", name := "hasRoomFor", desc := "(I)Z" } : Jvm.MethodName) prog_1_method_20_code (2 : Nat) (Option.some Jvm.ClassFile.FieldType.boolean)) ∈ bw := bw_of 91 (by decide +kernel) (by decide +kernel)
theorem bw_73 : (Jvm.Cond.methodLink "PlaceDesk" (61 : Nat) ({ cls := "PlaceDesk", name := "addThing", desc := "(II)I" } : Jvm.MethodName)) ∈ bw := bw_of 92 (by decide +kernel) (by decide +kernel)
theorem bw_75 : (Jvm.Cond.instanceMethod ({ cls := "PlaceDesk", name := "addThing", desc := "(II)I" } : Jvm.MethodName)) ∈ bw := bw_of 94 (by decide +kernel) (by decide +kernel)
theorem bw_76 : (Jvm.Cond.code ({ cls := "PlaceDesk", name := "addThing", desc := "(II)I" } : Jvm.MethodName) prog_1_method_21_code (4 : Nat) (Option.some Jvm.ClassFile.FieldType.int)) ∈ bw := bw_of 95 (by decide +kernel) (by decide +kernel)
theorem bw_77 : (Jvm.Cond.constantLong "PlaceDesk" (146 : Nat) (-1 : Int64)) ∈ bw := bw_of 96 (by decide +kernel) (by decide +kernel)
theorem bw_78 : (Jvm.Cond.instantiable "PlaceDesk$Thing" (3 : Nat)) ∈ bw := bw_of 97 (by decide +kernel) (by decide +kernel)
theorem bw_79 : (Jvm.Cond.methodLink "PlaceDesk" (154 : Nat) ({ cls := "PlaceDesk$Thing", name := "<init>", desc := "(III)V" } : Jvm.MethodName)) ∈ bw := bw_of 98 (by decide +kernel) (by decide +kernel)
theorem bw_80 : (Jvm.Cond.instanceMethod ({ cls := "PlaceDesk$Thing", name := "<init>", desc := "(III)V" } : Jvm.MethodName)) ∈ bw := bw_of 99 (by decide +kernel) (by decide +kernel)
theorem bw_81 : (Jvm.Cond.code ({ cls := "PlaceDesk$Thing", name := "<init>", desc := "(III)V" } : Jvm.MethodName) prog_4_method_1_code (4 : Nat) (Option.none : Option Jvm.ClassFile.FieldType)) ∈ bw := bw_of 100 (by decide +kernel) (by decide +kernel)
theorem bw_82 : (Jvm.Cond.methodLink "PlaceDesk$Thing" (1 : Nat) ({ cls := "java/lang/Object", name := "<init>", desc := "()V" } : Jvm.MethodName)) ∈ bw := bw_of 101 (by decide +kernel) (by decide +kernel)
theorem bw_83 : (Jvm.Cond.fieldLink "PlaceDesk$Thing" (7 : Nat) "PlaceDesk$Thing" "kind" "I") ∈ bw := bw_of 102 (by decide +kernel) (by decide +kernel)
theorem bw_84 : (Jvm.Cond.fieldLink "PlaceDesk" (75 : Nat) "PlaceDesk$Thing" "kind" "I") ∈ bw := bw_of 103 (by decide +kernel) (by decide +kernel)
theorem bw_85 : (Jvm.Cond.fieldLink "PlaceDesk$Thing" (13 : Nat) "PlaceDesk$Thing" "first" "I") ∈ bw := bw_of 104 (by decide +kernel) (by decide +kernel)
theorem bw_86 : (Jvm.Cond.fieldLink "PlaceDesk" (85 : Nat) "PlaceDesk$Thing" "first" "I") ∈ bw := bw_of 105 (by decide +kernel) (by decide +kernel)
theorem bw_87 : (Jvm.Cond.fieldLink "PlaceDesk$Thing" (16 : Nat) "PlaceDesk$Thing" "size" "I") ∈ bw := bw_of 106 (by decide +kernel) (by decide +kernel)
theorem bw_88 : (Jvm.Cond.fieldLink "PlaceDesk" (78 : Nat) "PlaceDesk$Thing" "size" "I") ∈ bw := bw_of 107 (by decide +kernel) (by decide +kernel)
theorem bw_89 : (Jvm.Cond.laysFinal "PlaceDesk$Thing" "PlaceDesk$Thing" "kind" "I") ∈ bw := bw_of 108 (by decide +kernel) (by decide +kernel)
theorem bw_90 : (Jvm.Cond.soleField "PlaceDesk$Thing" "kind") ∈ bw := bw_of 109 (by decide +kernel) (by decide +kernel)
theorem bw_91 : (Jvm.Cond.laysFinal "PlaceDesk$Thing" "PlaceDesk$Thing" "first" "I") ∈ bw := bw_of 110 (by decide +kernel) (by decide +kernel)
theorem bw_92 : (Jvm.Cond.soleField "PlaceDesk$Thing" "first") ∈ bw := bw_of 111 (by decide +kernel) (by decide +kernel)
theorem bw_93 : (Jvm.Cond.laysFinal "PlaceDesk$Thing" "PlaceDesk$Thing" "size" "I") ∈ bw := bw_of 112 (by decide +kernel) (by decide +kernel)
theorem bw_94 : (Jvm.Cond.soleField "PlaceDesk$Thing" "size") ∈ bw := bw_of 113 (by decide +kernel) (by decide +kernel)
theorem bw_95 : (Jvm.Cond.superclass "PlaceDesk$Thing" "java/lang/Object") ∈ bw := bw_of 114 (by decide +kernel) (by decide +kernel)
theorem bw_96 : (Jvm.Cond.methodLink "PlaceDeskLaw" (24 : Nat) ({ cls := "PlaceDesk", name := "put", desc := "(I)Z" } : Jvm.MethodName)) ∈ bw := bw_of 115 (by decide +kernel) (by decide +kernel)
theorem bw_97 : (Jvm.Cond.instanceMethod ({ cls := "PlaceDesk", name := "put", desc := "(I)Z" } : Jvm.MethodName)) ∈ bw := bw_of 116 (by decide +kernel) (by decide +kernel)
theorem bw_98 : (Jvm.Cond.selects "PlaceDesk" ({ cls := "PlaceDesk", name := "put", desc := "(I)Z" } : Jvm.MethodName) ({ cls := "PlaceDesk", name := "put", desc := "(I)Z" } : Jvm.MethodName)) ∈ bw := bw_of 117 (by decide +kernel) (by decide +kernel)
theorem bw_99 : (Jvm.Cond.code ({ cls := "PlaceDesk", name := "put", desc := "(I)Z" } : Jvm.MethodName) prog_1_method_3_code (2 : Nat) (Option.some Jvm.ClassFile.FieldType.boolean)) ∈ bw := bw_of 118 (by decide +kernel) (by decide +kernel)
theorem bw_100 : (Jvm.Cond.methodLink "PlaceDeskLaw" (29 : Nat) ({ cls := "PlaceDesk", name := "instance", desc := "()I" } : Jvm.MethodName)) ∈ bw := bw_of 119 (by decide +kernel) (by decide +kernel)
theorem bw_101 : (Jvm.Cond.instanceMethod ({ cls := "PlaceDesk", name := "instance", desc := "()I" } : Jvm.MethodName)) ∈ bw := bw_of 120 (by decide +kernel) (by decide +kernel)
theorem bw_102 : (Jvm.Cond.selects "PlaceDesk" ({ cls := "PlaceDesk", name := "instance", desc := "()I" } : Jvm.MethodName) ({ cls := "PlaceDesk", name := "instance", desc := "()I" } : Jvm.MethodName)) ∈ bw := bw_of 121 (by decide +kernel) (by decide +kernel)
theorem bw_103 : (Jvm.Cond.code ({ cls := "PlaceDesk", name := "instance", desc := "()I" } : Jvm.MethodName) prog_1_method_4_code (2 : Nat) (Option.some Jvm.ClassFile.FieldType.int)) ∈ bw := bw_of 122 (by decide +kernel) (by decide +kernel)
theorem bw_104 : (Jvm.Cond.methodLink "PlaceDesk" (65 : Nat) ({ cls := "java/lang/System", name := "arraycopy", desc := "(Ljava/lang/Object;ILjava/lang/Object;II)V" } : Jvm.MethodName)) ∈ bw := bw_of 123 (by decide +kernel) (by decide +kernel)
theorem bw_105 : (Jvm.Cond.static ({ cls := "java/lang/System", name := "arraycopy", desc := "(Ljava/lang/Object;ILjava/lang/Object;II)V" } : Jvm.MethodName)) ∈ bw := bw_of 124 (by decide +kernel) (by decide +kernel)
theorem bw_106 : (Jvm.Cond.native ({ cls := "java/lang/System", name := "arraycopy", desc := "(Ljava/lang/Object;ILjava/lang/Object;II)V" } : Jvm.MethodName)) ∈ bw := bw_of 125 (by decide +kernel) (by decide +kernel)
theorem bw_107 : (Jvm.Cond.methodLink "PlaceDeskLaw" (34 : Nat) ({ cls := "PlaceDesk", name := "object", desc := "(II)I" } : Jvm.MethodName)) ∈ bw := bw_of 126 (by decide +kernel) (by decide +kernel)
theorem bw_108 : (Jvm.Cond.instanceMethod ({ cls := "PlaceDesk", name := "object", desc := "(II)I" } : Jvm.MethodName)) ∈ bw := bw_of 127 (by decide +kernel) (by decide +kernel)
theorem bw_109 : (Jvm.Cond.selects "PlaceDesk" ({ cls := "PlaceDesk", name := "object", desc := "(II)I" } : Jvm.MethodName) ({ cls := "PlaceDesk", name := "object", desc := "(II)I" } : Jvm.MethodName)) ∈ bw := bw_of 128 (by decide +kernel) (by decide +kernel)
theorem bw_110 : (Jvm.Cond.code ({ cls := "PlaceDesk", name := "object", desc := "(II)I" } : Jvm.MethodName) prog_1_method_5_code (4 : Nat) (Option.some Jvm.ClassFile.FieldType.int)) ∈ bw := bw_of 129 (by decide +kernel) (by decide +kernel)
theorem bw_111 : (Jvm.Cond.methodLink "PlaceDesk" (71 : Nat) ({ cls := "PlaceDesk", name := "findThing", desc := "(I)LPlaceDesk$Thing;" } : Jvm.MethodName)) ∈ bw := bw_of 130 (by decide +kernel) (by decide +kernel)
theorem bw_113 : (Jvm.Cond.instanceMethod ({ cls := "PlaceDesk", name := "findThing", desc := "(I)LPlaceDesk$Thing;" } : Jvm.MethodName)) ∈ bw := bw_of 132 (by decide +kernel) (by decide +kernel)
theorem bw_114 : (Jvm.Cond.code ({ cls := "PlaceDesk", name := "findThing", desc := "(I)LPlaceDesk$Thing;" } : Jvm.MethodName) prog_1_method_23_code (2 : Nat) (Option.some (Jvm.ClassFile.FieldType.object "PlaceDesk$Thing"))) ∈ bw := bw_of 133 (by decide +kernel) (by decide +kernel)
theorem bw_115 : (Jvm.Cond.methodLink "PlaceDesk" (81 : Nat) ({ cls := "PlaceDesk$Thing", name := "holds", desc := "(II)Z" } : Jvm.MethodName)) ∈ bw := bw_of 134 (by decide +kernel) (by decide +kernel)
theorem bw_116 : (Jvm.Cond.instanceMethod ({ cls := "PlaceDesk$Thing", name := "holds", desc := "(II)Z" } : Jvm.MethodName)) ∈ bw := bw_of 135 (by decide +kernel) (by decide +kernel)
theorem bw_117 : (Jvm.Cond.selects "PlaceDesk$Thing" ({ cls := "PlaceDesk$Thing", name := "holds", desc := "(II)Z" } : Jvm.MethodName) ({ cls := "PlaceDesk$Thing", name := "holds", desc := "(II)Z" } : Jvm.MethodName)) ∈ bw := bw_of 136 (by decide +kernel) (by decide +kernel)
theorem bw_118 : (Jvm.Cond.code ({ cls := "PlaceDesk$Thing", name := "holds", desc := "(II)Z" } : Jvm.MethodName) prog_4_method_2_code (3 : Nat) (Option.some Jvm.ClassFile.FieldType.boolean)) ∈ bw := bw_of 137 (by decide +kernel) (by decide +kernel)
theorem bw_119 : (Jvm.Cond.methodLink "PlaceDeskLaw" (38 : Nat) ({ cls := "PlaceDesk", name := "place", desc := "(II)I" } : Jvm.MethodName)) ∈ bw := bw_of 138 (by decide +kernel) (by decide +kernel)
theorem bw_120 : (Jvm.Cond.instanceMethod ({ cls := "PlaceDesk", name := "place", desc := "(II)I" } : Jvm.MethodName)) ∈ bw := bw_of 139 (by decide +kernel) (by decide +kernel)
theorem bw_121 : (Jvm.Cond.selects "PlaceDesk" ({ cls := "PlaceDesk", name := "place", desc := "(II)I" } : Jvm.MethodName) ({ cls := "PlaceDesk", name := "place", desc := "(II)I" } : Jvm.MethodName)) ∈ bw := bw_of 140 (by decide +kernel) (by decide +kernel)
theorem bw_122 : (Jvm.Cond.code ({ cls := "PlaceDesk", name := "place", desc := "(II)I" } : Jvm.MethodName) prog_1_method_6_code (5 : Nat) (Option.some Jvm.ClassFile.FieldType.int)) ∈ bw := bw_of 141 (by decide +kernel) (by decide +kernel)
theorem bw_123 : (Jvm.Cond.methodLink "PlaceDesk" (88 : Nat) ({ cls := "PlaceDesk", name := "addSpot", desc := "(IIIZ)I" } : Jvm.MethodName)) ∈ bw := bw_of 142 (by decide +kernel) (by decide +kernel)
theorem bw_125 : (Jvm.Cond.instanceMethod ({ cls := "PlaceDesk", name := "addSpot", desc := "(IIIZ)I" } : Jvm.MethodName)) ∈ bw := bw_of 144 (by decide +kernel) (by decide +kernel)
theorem bw_126 : (Jvm.Cond.code ({ cls := "PlaceDesk", name := "addSpot", desc := "(IIIZ)I" } : Jvm.MethodName) prog_1_method_22_code (5 : Nat) (Option.some Jvm.ClassFile.FieldType.int)) ∈ bw := bw_of 145 (by decide +kernel) (by decide +kernel)
theorem bw_127 : (Jvm.Cond.instantiable "PlaceDesk$Spot" (4 : Nat)) ∈ bw := bw_of 146 (by decide +kernel) (by decide +kernel)
theorem bw_128 : (Jvm.Cond.methodLink "PlaceDesk" (157 : Nat) ({ cls := "PlaceDesk$Spot", name := "<init>", desc := "(IIIZ)V" } : Jvm.MethodName)) ∈ bw := bw_of 147 (by decide +kernel) (by decide +kernel)
theorem bw_129 : (Jvm.Cond.instanceMethod ({ cls := "PlaceDesk$Spot", name := "<init>", desc := "(IIIZ)V" } : Jvm.MethodName)) ∈ bw := bw_of 148 (by decide +kernel) (by decide +kernel)
theorem bw_130 : (Jvm.Cond.code ({ cls := "PlaceDesk$Spot", name := "<init>", desc := "(IIIZ)V" } : Jvm.MethodName) prog_3_method_1_code (5 : Nat) (Option.none : Option Jvm.ClassFile.FieldType)) ∈ bw := bw_of 149 (by decide +kernel) (by decide +kernel)
theorem bw_131 : (Jvm.Cond.methodLink "PlaceDesk$Spot" (1 : Nat) ({ cls := "java/lang/Object", name := "<init>", desc := "()V" } : Jvm.MethodName)) ∈ bw := bw_of 150 (by decide +kernel) (by decide +kernel)
theorem bw_132 : (Jvm.Cond.fieldLink "PlaceDesk$Spot" (7 : Nat) "PlaceDesk$Spot" "kind" "I") ∈ bw := bw_of 151 (by decide +kernel) (by decide +kernel)
theorem bw_133 : (Jvm.Cond.fieldLink "PlaceDesk" (100 : Nat) "PlaceDesk$Spot" "kind" "I") ∈ bw := bw_of 152 (by decide +kernel) (by decide +kernel)
theorem bw_134 : (Jvm.Cond.fieldLink "PlaceDesk$Spot" (13 : Nat) "PlaceDesk$Spot" "first" "I") ∈ bw := bw_of 153 (by decide +kernel) (by decide +kernel)
theorem bw_135 : (Jvm.Cond.fieldLink "PlaceDesk" (177 : Nat) "PlaceDesk$Spot" "first" "I") ∈ bw := bw_of 154 (by decide +kernel) (by decide +kernel)
theorem bw_136 : (Jvm.Cond.fieldLink "PlaceDesk$Spot" (16 : Nat) "PlaceDesk$Spot" "width" "I") ∈ bw := bw_of 155 (by decide +kernel) (by decide +kernel)
theorem bw_137 : (Jvm.Cond.fieldLink "PlaceDesk" (174 : Nat) "PlaceDesk$Spot" "width" "I") ∈ bw := bw_of 156 (by decide +kernel) (by decide +kernel)
theorem bw_138 : (Jvm.Cond.fieldLink "PlaceDesk$Spot" (19 : Nat) "PlaceDesk$Spot" "little" "Z") ∈ bw := bw_of 157 (by decide +kernel) (by decide +kernel)
theorem bw_139 : (Jvm.Cond.laysFinal "PlaceDesk$Spot" "PlaceDesk$Spot" "kind" "I") ∈ bw := bw_of 158 (by decide +kernel) (by decide +kernel)
theorem bw_140 : (Jvm.Cond.soleField "PlaceDesk$Spot" "kind") ∈ bw := bw_of 159 (by decide +kernel) (by decide +kernel)
theorem bw_141 : (Jvm.Cond.laysFinal "PlaceDesk$Spot" "PlaceDesk$Spot" "first" "I") ∈ bw := bw_of 160 (by decide +kernel) (by decide +kernel)
theorem bw_142 : (Jvm.Cond.soleField "PlaceDesk$Spot" "first") ∈ bw := bw_of 161 (by decide +kernel) (by decide +kernel)
theorem bw_143 : (Jvm.Cond.laysFinal "PlaceDesk$Spot" "PlaceDesk$Spot" "width" "I") ∈ bw := bw_of 162 (by decide +kernel) (by decide +kernel)
theorem bw_144 : (Jvm.Cond.soleField "PlaceDesk$Spot" "width") ∈ bw := bw_of 163 (by decide +kernel) (by decide +kernel)
theorem bw_145 : (Jvm.Cond.laysFinal "PlaceDesk$Spot" "PlaceDesk$Spot" "little" "Z") ∈ bw := bw_of 164 (by decide +kernel) (by decide +kernel)
theorem bw_146 : (Jvm.Cond.soleField "PlaceDesk$Spot" "little") ∈ bw := bw_of 165 (by decide +kernel) (by decide +kernel)
theorem bw_147 : (Jvm.Cond.superclass "PlaceDesk$Spot" "java/lang/Object") ∈ bw := bw_of 166 (by decide +kernel) (by decide +kernel)
theorem bw_148 : (Jvm.Cond.methodLink "PlaceDeskLaw" (42 : Nat) ({ cls := "PlaceDesk", name := "view", desc := "(IIIZ)I" } : Jvm.MethodName)) ∈ bw := bw_of 167 (by decide +kernel) (by decide +kernel)
theorem bw_149 : (Jvm.Cond.instanceMethod ({ cls := "PlaceDesk", name := "view", desc := "(IIIZ)I" } : Jvm.MethodName)) ∈ bw := bw_of 168 (by decide +kernel) (by decide +kernel)
theorem bw_150 : (Jvm.Cond.selects "PlaceDesk" ({ cls := "PlaceDesk", name := "view", desc := "(IIIZ)I" } : Jvm.MethodName) ({ cls := "PlaceDesk", name := "view", desc := "(IIIZ)I" } : Jvm.MethodName)) ∈ bw := bw_of 169 (by decide +kernel) (by decide +kernel)
theorem bw_151 : (Jvm.Cond.code ({ cls := "PlaceDesk", name := "view", desc := "(IIIZ)I" } : Jvm.MethodName) prog_1_method_7_code (7 : Nat) (Option.some Jvm.ClassFile.FieldType.int)) ∈ bw := bw_of 170 (by decide +kernel) (by decide +kernel)
theorem bw_152 : (Jvm.Cond.methodLink "PlaceDesk" (92 : Nat) ({ cls := "PlaceDesk", name := "widthOfView", desc := "(I)I" } : Jvm.MethodName)) ∈ bw := bw_of 171 (by decide +kernel) (by decide +kernel)
theorem bw_153 : (Jvm.Cond.static ({ cls := "PlaceDesk", name := "widthOfView", desc := "(I)I" } : Jvm.MethodName)) ∈ bw := bw_of 172 (by decide +kernel) (by decide +kernel)
theorem bw_154 : (Jvm.Cond.code ({ cls := "PlaceDesk", name := "widthOfView", desc := "(I)I" } : Jvm.MethodName) prog_1_method_16_code (1 : Nat) (Option.some Jvm.ClassFile.FieldType.int)) ∈ bw := bw_of 173 (by decide +kernel) (by decide +kernel)
theorem bw_155 : (Jvm.Cond.methodLink "PlaceDeskLaw" (47 : Nat) ({ cls := "PlaceDesk", name := "kindOf", desc := "(I)I" } : Jvm.MethodName)) ∈ bw := bw_of 174 (by decide +kernel) (by decide +kernel)
theorem bw_156 : (Jvm.Cond.instanceMethod ({ cls := "PlaceDesk", name := "kindOf", desc := "(I)I" } : Jvm.MethodName)) ∈ bw := bw_of 175 (by decide +kernel) (by decide +kernel)
theorem bw_157 : (Jvm.Cond.selects "PlaceDesk" ({ cls := "PlaceDesk", name := "kindOf", desc := "(I)I" } : Jvm.MethodName) ({ cls := "PlaceDesk", name := "kindOf", desc := "(I)I" } : Jvm.MethodName)) ∈ bw := bw_of 176 (by decide +kernel) (by decide +kernel)
theorem bw_158 : (Jvm.Cond.code ({ cls := "PlaceDesk", name := "kindOf", desc := "(I)I" } : Jvm.MethodName) prog_1_method_8_code (3 : Nat) (Option.some Jvm.ClassFile.FieldType.int)) ∈ bw := bw_of 177 (by decide +kernel) (by decide +kernel)
theorem bw_159 : (Jvm.Cond.methodLink "PlaceDesk" (96 : Nat) ({ cls := "PlaceDesk", name := "findSpot", desc := "(I)LPlaceDesk$Spot;" } : Jvm.MethodName)) ∈ bw := bw_of 178 (by decide +kernel) (by decide +kernel)
theorem bw_161 : (Jvm.Cond.instanceMethod ({ cls := "PlaceDesk", name := "findSpot", desc := "(I)LPlaceDesk$Spot;" } : Jvm.MethodName)) ∈ bw := bw_of 180 (by decide +kernel) (by decide +kernel)
theorem bw_162 : (Jvm.Cond.code ({ cls := "PlaceDesk", name := "findSpot", desc := "(I)LPlaceDesk$Spot;" } : Jvm.MethodName) prog_1_method_24_code (2 : Nat) (Option.some (Jvm.ClassFile.FieldType.object "PlaceDesk$Spot"))) ∈ bw := bw_of 181 (by decide +kernel) (by decide +kernel)
theorem bw_163 : (Jvm.Cond.methodLink "PlaceDeskLaw" (63 : Nat) ({ cls := "PlaceDesk", name := "copy", desc := "(IIIII)Z" } : Jvm.MethodName)) ∈ bw := bw_of 182 (by decide +kernel) (by decide +kernel)
theorem bw_164 : (Jvm.Cond.instanceMethod ({ cls := "PlaceDesk", name := "copy", desc := "(IIIII)Z" } : Jvm.MethodName)) ∈ bw := bw_of 183 (by decide +kernel) (by decide +kernel)
theorem bw_165 : (Jvm.Cond.selects "PlaceDesk" ({ cls := "PlaceDesk", name := "copy", desc := "(IIIII)Z" } : Jvm.MethodName) ({ cls := "PlaceDesk", name := "copy", desc := "(IIIII)Z" } : Jvm.MethodName)) ∈ bw := bw_of 184 (by decide +kernel) (by decide +kernel)
theorem bw_166 : (Jvm.Cond.code ({ cls := "PlaceDesk", name := "copy", desc := "(IIIII)Z" } : Jvm.MethodName) prog_1_method_10_code (8 : Nat) (Option.some Jvm.ClassFile.FieldType.boolean)) ∈ bw := bw_of 185 (by decide +kernel) (by decide +kernel)
theorem bw_167 : (Jvm.Cond.methodLink "PlaceDeskLaw" (68 : Nat) ({ cls := "PlaceDesk", name := "meet", desc := "(II)Z" } : Jvm.MethodName)) ∈ bw := bw_of 186 (by decide +kernel) (by decide +kernel)
theorem bw_168 : (Jvm.Cond.instanceMethod ({ cls := "PlaceDesk", name := "meet", desc := "(II)Z" } : Jvm.MethodName)) ∈ bw := bw_of 187 (by decide +kernel) (by decide +kernel)
theorem bw_169 : (Jvm.Cond.selects "PlaceDesk" ({ cls := "PlaceDesk", name := "meet", desc := "(II)Z" } : Jvm.MethodName) ({ cls := "PlaceDesk", name := "meet", desc := "(II)Z" } : Jvm.MethodName)) ∈ bw := bw_of 188 (by decide +kernel) (by decide +kernel)
theorem bw_170 : (Jvm.Cond.code ({ cls := "PlaceDesk", name := "meet", desc := "(II)Z" } : Jvm.MethodName) prog_1_method_11_code (5 : Nat) (Option.some Jvm.ClassFile.FieldType.boolean)) ∈ bw := bw_of 189 (by decide +kernel) (by decide +kernel)
theorem bw_171 : (Jvm.Cond.methodLink "PlaceDesk" (125 : Nat) ({ cls := "PlaceDesk$Spot", name := "overlaps", desc := "(LPlaceDesk$Spot;)Z" } : Jvm.MethodName)) ∈ bw := bw_of 190 (by decide +kernel) (by decide +kernel)
theorem bw_172 : (Jvm.Cond.instanceMethod ({ cls := "PlaceDesk$Spot", name := "overlaps", desc := "(LPlaceDesk$Spot;)Z" } : Jvm.MethodName)) ∈ bw := bw_of 191 (by decide +kernel) (by decide +kernel)
theorem bw_173 : (Jvm.Cond.selects "PlaceDesk$Spot" ({ cls := "PlaceDesk$Spot", name := "overlaps", desc := "(LPlaceDesk$Spot;)Z" } : Jvm.MethodName) ({ cls := "PlaceDesk$Spot", name := "overlaps", desc := "(LPlaceDesk$Spot;)Z" } : Jvm.MethodName)) ∈ bw := bw_of 192 (by decide +kernel) (by decide +kernel)
theorem bw_174 : (Jvm.Cond.code ({ cls := "PlaceDesk$Spot", name := "overlaps", desc := "(LPlaceDesk$Spot;)Z" } : Jvm.MethodName) prog_3_method_3_code (2 : Nat) (Option.some Jvm.ClassFile.FieldType.boolean)) ∈ bw := bw_of 193 (by decide +kernel) (by decide +kernel)
theorem bw_175 : (Jvm.Cond.methodLink "PlaceDeskLaw" (73 : Nat) ({ cls := "PlaceDesk", name := "mark", desc := "()I" } : Jvm.MethodName)) ∈ bw := bw_of 194 (by decide +kernel) (by decide +kernel)
theorem bw_176 : (Jvm.Cond.instanceMethod ({ cls := "PlaceDesk", name := "mark", desc := "()I" } : Jvm.MethodName)) ∈ bw := bw_of 195 (by decide +kernel) (by decide +kernel)
theorem bw_177 : (Jvm.Cond.selects "PlaceDesk" ({ cls := "PlaceDesk", name := "mark", desc := "()I" } : Jvm.MethodName) ({ cls := "PlaceDesk", name := "mark", desc := "()I" } : Jvm.MethodName)) ∈ bw := bw_of 196 (by decide +kernel) (by decide +kernel)
theorem bw_178 : (Jvm.Cond.code ({ cls := "PlaceDesk", name := "mark", desc := "()I" } : Jvm.MethodName) prog_1_method_12_code (2 : Nat) (Option.some Jvm.ClassFile.FieldType.int)) ∈ bw := bw_of 197 (by decide +kernel) (by decide +kernel)
theorem bw_179 : (Jvm.Cond.instantiable "PlaceDesk$Snapshot" (2 : Nat)) ∈ bw := bw_of 198 (by decide +kernel) (by decide +kernel)
theorem bw_181 : (Jvm.Cond.instanceMethod ({ cls := "PlaceDesk$Snapshot", name := "<init>", desc := "()V" } : Jvm.MethodName)) ∈ bw := bw_of 200 (by decide +kernel) (by decide +kernel)
theorem bw_182 : (Jvm.Cond.code ({ cls := "PlaceDesk$Snapshot", name := "<init>", desc := "()V" } : Jvm.MethodName) prog_2_method_1_code (1 : Nat) (Option.none : Option Jvm.ClassFile.FieldType)) ∈ bw := bw_of 201 (by decide +kernel) (by decide +kernel)
theorem bw_183 : (Jvm.Cond.methodLink "PlaceDesk$Snapshot" (3 : Nat) ({ cls := "java/lang/Object", name := "<init>", desc := "()V" } : Jvm.MethodName)) ∈ bw := bw_of 202 (by decide +kernel) (by decide +kernel)
theorem bw_184 : (Jvm.Cond.fieldLink "PlaceDesk$Snapshot" (9 : Nat) "PlaceDesk$Snapshot" "remembered" "[J") ∈ bw := bw_of 203 (by decide +kernel) (by decide +kernel)
theorem bw_185 : (Jvm.Cond.fieldLink "PlaceDesk$Snapshot" (15 : Nat) "PlaceDesk$Snapshot" "count" "I") ∈ bw := bw_of 204 (by decide +kernel) (by decide +kernel)
theorem bw_186 : (Jvm.Cond.laysFinal "PlaceDesk$Snapshot" "PlaceDesk$Snapshot" "remembered" "[J") ∈ bw := bw_of 205 (by decide +kernel) (by decide +kernel)
theorem bw_187 : (Jvm.Cond.soleField "PlaceDesk$Snapshot" "remembered") ∈ bw := bw_of 206 (by decide +kernel) (by decide +kernel)
theorem bw_188 : (Jvm.Cond.lays "PlaceDesk$Snapshot" "PlaceDesk$Snapshot" "count" "I") ∈ bw := bw_of 207 (by decide +kernel) (by decide +kernel)
theorem bw_189 : (Jvm.Cond.soleField "PlaceDesk$Snapshot" "count") ∈ bw := bw_of 208 (by decide +kernel) (by decide +kernel)
theorem bw_190 : (Jvm.Cond.superclass "PlaceDesk$Snapshot" "java/lang/Object") ∈ bw := bw_of 209 (by decide +kernel) (by decide +kernel)
theorem bw_191 : (Jvm.Cond.methodLink "PlaceDesk" (130 : Nat) ({ cls := "PlaceDesk$Snapshot", name := "remember", desc := "([JI)V" } : Jvm.MethodName)) ∈ bw := bw_of 210 (by decide +kernel) (by decide +kernel)
theorem bw_192 : (Jvm.Cond.instanceMethod ({ cls := "PlaceDesk$Snapshot", name := "remember", desc := "([JI)V" } : Jvm.MethodName)) ∈ bw := bw_of 211 (by decide +kernel) (by decide +kernel)
theorem bw_193 : (Jvm.Cond.selects "PlaceDesk$Snapshot" ({ cls := "PlaceDesk$Snapshot", name := "remember", desc := "([JI)V" } : Jvm.MethodName) ({ cls := "PlaceDesk$Snapshot", name := "remember", desc := "([JI)V" } : Jvm.MethodName)) ∈ bw := bw_of 212 (by decide +kernel) (by decide +kernel)
theorem bw_194 : (Jvm.Cond.code ({ cls := "PlaceDesk$Snapshot", name := "remember", desc := "([JI)V" } : Jvm.MethodName) prog_2_method_2_code (3 : Nat) (Option.none : Option Jvm.ClassFile.FieldType)) ∈ bw := bw_of 213 (by decide +kernel) (by decide +kernel)
theorem bw_195 : (Jvm.Cond.methodLink "PlaceDesk$Snapshot" (19 : Nat) ({ cls := "java/lang/System", name := "arraycopy", desc := "(Ljava/lang/Object;ILjava/lang/Object;II)V" } : Jvm.MethodName)) ∈ bw := bw_of 214 (by decide +kernel) (by decide +kernel)
theorem bw_196 : (Jvm.Cond.methodLink "PlaceDeskLaw" (77 : Nat) ({ cls := "PlaceDesk", name := "back", desc := "(I)I" } : Jvm.MethodName)) ∈ bw := bw_of 215 (by decide +kernel) (by decide +kernel)
theorem bw_197 : (Jvm.Cond.instanceMethod ({ cls := "PlaceDesk", name := "back", desc := "(I)I" } : Jvm.MethodName)) ∈ bw := bw_of 216 (by decide +kernel) (by decide +kernel)
theorem bw_198 : (Jvm.Cond.selects "PlaceDesk" ({ cls := "PlaceDesk", name := "back", desc := "(I)I" } : Jvm.MethodName) ({ cls := "PlaceDesk", name := "back", desc := "(I)I" } : Jvm.MethodName)) ∈ bw := bw_of 217 (by decide +kernel) (by decide +kernel)
theorem bw_199 : (Jvm.Cond.code ({ cls := "PlaceDesk", name := "back", desc := "(I)I" } : Jvm.MethodName) prog_1_method_13_code (4 : Nat) (Option.some Jvm.ClassFile.FieldType.int)) ∈ bw := bw_of 218 (by decide +kernel) (by decide +kernel)
theorem bw_200 : (Jvm.Cond.methodLink "PlaceDesk" (134 : Nat) ({ cls := "PlaceDesk", name := "findSnapshot", desc := "(I)LPlaceDesk$Snapshot;" } : Jvm.MethodName)) ∈ bw := bw_of 219 (by decide +kernel) (by decide +kernel)
theorem bw_202 : (Jvm.Cond.instanceMethod ({ cls := "PlaceDesk", name := "findSnapshot", desc := "(I)LPlaceDesk$Snapshot;" } : Jvm.MethodName)) ∈ bw := bw_of 221 (by decide +kernel) (by decide +kernel)
theorem bw_203 : (Jvm.Cond.code ({ cls := "PlaceDesk", name := "findSnapshot", desc := "(I)LPlaceDesk$Snapshot;" } : Jvm.MethodName) prog_1_method_25_code (2 : Nat) (Option.some (Jvm.ClassFile.FieldType.object "PlaceDesk$Snapshot"))) ∈ bw := bw_of 222 (by decide +kernel) (by decide +kernel)
theorem bw_204 : (Jvm.Cond.methodLink "PlaceDesk" (138 : Nat) ({ cls := "PlaceDesk$Snapshot", name := "differences", desc := "([J)I" } : Jvm.MethodName)) ∈ bw := bw_of 223 (by decide +kernel) (by decide +kernel)
theorem bw_205 : (Jvm.Cond.instanceMethod ({ cls := "PlaceDesk$Snapshot", name := "differences", desc := "([J)I" } : Jvm.MethodName)) ∈ bw := bw_of 224 (by decide +kernel) (by decide +kernel)
theorem bw_206 : (Jvm.Cond.selects "PlaceDesk$Snapshot" ({ cls := "PlaceDesk$Snapshot", name := "differences", desc := "([J)I" } : Jvm.MethodName) ({ cls := "PlaceDesk$Snapshot", name := "differences", desc := "([J)I" } : Jvm.MethodName)) ∈ bw := bw_of 225 (by decide +kernel) (by decide +kernel)
theorem bw_207 : (Jvm.Cond.code ({ cls := "PlaceDesk$Snapshot", name := "differences", desc := "([J)I" } : Jvm.MethodName) prog_2_method_3_code (4 : Nat) (Option.some Jvm.ClassFile.FieldType.int)) ∈ bw := bw_of 226 (by decide +kernel) (by decide +kernel)
theorem bw_208 : (Jvm.Cond.methodLink "PlaceDesk" (142 : Nat) ({ cls := "PlaceDesk$Snapshot", name := "restore", desc := "([J)V" } : Jvm.MethodName)) ∈ bw := bw_of 227 (by decide +kernel) (by decide +kernel)
theorem bw_209 : (Jvm.Cond.instanceMethod ({ cls := "PlaceDesk$Snapshot", name := "restore", desc := "([J)V" } : Jvm.MethodName)) ∈ bw := bw_of 228 (by decide +kernel) (by decide +kernel)
theorem bw_210 : (Jvm.Cond.selects "PlaceDesk$Snapshot" ({ cls := "PlaceDesk$Snapshot", name := "restore", desc := "([J)V" } : Jvm.MethodName) ({ cls := "PlaceDesk$Snapshot", name := "restore", desc := "([J)V" } : Jvm.MethodName)) ∈ bw := bw_of 229 (by decide +kernel) (by decide +kernel)
theorem bw_211 : (Jvm.Cond.code ({ cls := "PlaceDesk$Snapshot", name := "restore", desc := "([J)V" } : Jvm.MethodName) prog_2_method_4_code (2 : Nat) (Option.none : Option Jvm.ClassFile.FieldType)) ∈ bw := bw_of 230 (by decide +kernel) (by decide +kernel)
theorem bw_212 : (Jvm.Cond.methodLink "PlaceDeskLaw" (81 : Nat) ({ cls := "PlaceDesk", name := "changed", desc := "(I)I" } : Jvm.MethodName)) ∈ bw := bw_of 231 (by decide +kernel) (by decide +kernel)
theorem bw_213 : (Jvm.Cond.instanceMethod ({ cls := "PlaceDesk", name := "changed", desc := "(I)I" } : Jvm.MethodName)) ∈ bw := bw_of 232 (by decide +kernel) (by decide +kernel)
theorem bw_214 : (Jvm.Cond.selects "PlaceDesk" ({ cls := "PlaceDesk", name := "changed", desc := "(I)I" } : Jvm.MethodName) ({ cls := "PlaceDesk", name := "changed", desc := "(I)I" } : Jvm.MethodName)) ∈ bw := bw_of 233 (by decide +kernel) (by decide +kernel)
theorem bw_215 : (Jvm.Cond.code ({ cls := "PlaceDesk", name := "changed", desc := "(I)I" } : Jvm.MethodName) prog_1_method_14_code (3 : Nat) (Option.some Jvm.ClassFile.FieldType.int)) ∈ bw := bw_of 234 (by decide +kernel) (by decide +kernel)
theorem bw_216 : (Jvm.Cond.methodLink "PlaceDeskLaw" (54 : Nat) ({ cls := "PlaceDeskLaw", name := "act", desc := "(LPlaceDesk;IIJJ[J)I" } : Jvm.MethodName)) ∈ bw := bw_of 235 (by decide +kernel) (by decide +kernel)
theorem bw_217 : (Jvm.Cond.static ({ cls := "PlaceDeskLaw", name := "act", desc := "(LPlaceDesk;IIJJ[J)I" } : Jvm.MethodName)) ∈ bw := bw_of 236 (by decide +kernel) (by decide +kernel)
theorem bw_219 : (Jvm.Cond.classLink "PlaceDeskLaw" (13 : Nat) "java/lang/IllegalArgumentException") ∈ bw := bw_of 238 (by decide +kernel) (by decide +kernel)
theorem bw_220 : (Jvm.Cond.methodLink "PlaceDeskLaw" (7 : Nat) ({ cls := "PlaceDesk", name := "act", desc := "(IIJJ)J" } : Jvm.MethodName)) ∈ bw := bw_of 239 (by decide +kernel) (by decide +kernel)
theorem bw_221 : (Jvm.Cond.instanceMethod ({ cls := "PlaceDesk", name := "act", desc := "(IIJJ)J" } : Jvm.MethodName)) ∈ bw := bw_of 240 (by decide +kernel) (by decide +kernel)
theorem bw_222 : (Jvm.Cond.selects "PlaceDesk" ({ cls := "PlaceDesk", name := "act", desc := "(IIJJ)J" } : Jvm.MethodName) ({ cls := "PlaceDesk", name := "act", desc := "(IIJJ)J" } : Jvm.MethodName)) ∈ bw := bw_of 241 (by decide +kernel) (by decide +kernel)
theorem bw_223 : (Jvm.Cond.code ({ cls := "PlaceDesk", name := "act", desc := "(IIJJ)J" } : Jvm.MethodName) prog_1_method_9_code (8 : Nat) (Option.some Jvm.ClassFile.FieldType.long)) ∈ bw := bw_of 242 (by decide +kernel) (by decide +kernel)
theorem bw_224 : (Jvm.Cond.classLink "PlaceDesk" (101 : Nat) "java/lang/IllegalArgumentException") ∈ bw := bw_of 243 (by decide +kernel) (by decide +kernel)
theorem bw_225 : (Jvm.Cond.instantiable "java/lang/IllegalArgumentException" (6 : Nat)) ∈ bw := bw_of 244 (by decide +kernel) (by decide +kernel)
theorem bw_233 : (Jvm.Cond.selects "java/lang/IllegalArgumentException" ({ cls := "java/lang/Throwable", name := "fillInStackTrace", desc := "(I)Ljava/lang/Throwable;" } : Jvm.MethodName) ({ cls := "java/lang/Throwable", name := "fillInStackTrace", desc := "(I)Ljava/lang/Throwable;" } : Jvm.MethodName)) ∈ bw := bw_of 252 (by decide +kernel) (by decide +kernel)
theorem bw_234 : (Jvm.Cond.selects "java/lang/IllegalArgumentException" ({ cls := "java/lang/Throwable", name := "fillInStackTrace", desc := "()Ljava/lang/Throwable;" } : Jvm.MethodName) ({ cls := "java/lang/Throwable", name := "fillInStackTrace", desc := "()Ljava/lang/Throwable;" } : Jvm.MethodName)) ∈ bw := bw_of 253 (by decide +kernel) (by decide +kernel)
theorem bw_235 : (Jvm.Cond.lays "java/lang/IllegalArgumentException" "java/lang/Throwable" "cause" "Ljava/lang/Throwable;") ∈ bw := bw_of 254 (by decide +kernel) (by decide +kernel)
theorem bw_236 : (Jvm.Cond.lays "java/lang/Throwable" "java/lang/Throwable" "cause" "Ljava/lang/Throwable;") ∈ bw := bw_of 255 (by decide +kernel) (by decide +kernel)
theorem bw_237 : (Jvm.Cond.lays "java/lang/IllegalArgumentException" "java/lang/Throwable" "stackTrace" "[Ljava/lang/StackTraceElement;") ∈ bw := bw_of 256 (by decide +kernel) (by decide +kernel)
theorem bw_238 : (Jvm.Cond.lays "java/lang/Throwable" "java/lang/Throwable" "stackTrace" "[Ljava/lang/StackTraceElement;") ∈ bw := bw_of 257 (by decide +kernel) (by decide +kernel)
theorem bw_239 : (Jvm.Cond.lays "java/lang/IllegalArgumentException" "java/lang/Throwable" "suppressedExceptions" "Ljava/util/List;") ∈ bw := bw_of 258 (by decide +kernel) (by decide +kernel)
theorem bw_240 : (Jvm.Cond.lays "java/lang/Throwable" "java/lang/Throwable" "suppressedExceptions" "Ljava/util/List;") ∈ bw := bw_of 259 (by decide +kernel) (by decide +kernel)
theorem bw_241 : (Jvm.Cond.lays "java/lang/IllegalArgumentException" "java/lang/Throwable" "detailMessage" "Ljava/lang/String;") ∈ bw := bw_of 260 (by decide +kernel) (by decide +kernel)
theorem bw_242 : (Jvm.Cond.lays "java/lang/Throwable" "java/lang/Throwable" "detailMessage" "Ljava/lang/String;") ∈ bw := bw_of 261 (by decide +kernel) (by decide +kernel)
theorem bw_243 : (Jvm.Cond.lays "java/lang/IllegalArgumentException" "java/lang/Throwable" "backtrace" "Ljava/lang/Object;") ∈ bw := bw_of 262 (by decide +kernel) (by decide +kernel)
theorem bw_244 : (Jvm.Cond.lays "java/lang/Throwable" "java/lang/Throwable" "backtrace" "Ljava/lang/Object;") ∈ bw := bw_of 263 (by decide +kernel) (by decide +kernel)
theorem bw_245 : (Jvm.Cond.fieldLink "java/lang/Throwable" (198 : Nat) "java/lang/Throwable" "backtrace" "Ljava/lang/Object;") ∈ bw := bw_of 264 (by decide +kernel) (by decide +kernel)
theorem bw_246 : (Jvm.Cond.superclass "java/lang/Throwable" "java/lang/Object") ∈ bw := bw_of 265 (by decide +kernel) (by decide +kernel)
theorem bw_247 : (Jvm.Cond.instanceMethod ({ cls := "java/lang/Throwable", name := "<init>", desc := "()V" } : Jvm.MethodName)) ∈ bw := bw_of 266 (by decide +kernel) (by decide +kernel)
theorem bw_248 : (Jvm.Cond.code ({ cls := "java/lang/Throwable", name := "<init>", desc := "()V" } : Jvm.MethodName) prog_13_method_1_code (1 : Nat) (Option.none : Option Jvm.ClassFile.FieldType)) ∈ bw := bw_of 267 (by decide +kernel) (by decide +kernel)
theorem bw_249 : (Jvm.Cond.methodLink "java/lang/Throwable" (1 : Nat) ({ cls := "java/lang/Object", name := "<init>", desc := "()V" } : Jvm.MethodName)) ∈ bw := bw_of 268 (by decide +kernel) (by decide +kernel)
theorem bw_250 : (Jvm.Cond.fieldLink "java/lang/Throwable" (13 : Nat) "java/lang/Throwable" "UNASSIGNED_STACK" "[Ljava/lang/StackTraceElement;") ∈ bw := bw_of 269 (by decide +kernel) (by decide +kernel)
theorem bw_252 : (Jvm.Cond.fieldLink "java/lang/Throwable" (20 : Nat) "java/lang/Throwable" "SUPPRESSED_SENTINEL" "Ljava/util/List;") ∈ bw := bw_of 271 (by decide +kernel) (by decide +kernel)
theorem bw_254 : (Jvm.Cond.methodLink "java/lang/Throwable" (27 : Nat) ({ cls := "java/lang/Throwable", name := "fillInStackTrace", desc := "()Ljava/lang/Throwable;" } : Jvm.MethodName)) ∈ bw := bw_of 273 (by decide +kernel) (by decide +kernel)
theorem bw_255 : (Jvm.Cond.instanceMethod ({ cls := "java/lang/Throwable", name := "fillInStackTrace", desc := "()Ljava/lang/Throwable;" } : Jvm.MethodName)) ∈ bw := bw_of 274 (by decide +kernel) (by decide +kernel)
theorem bw_258 : (Jvm.Cond.methodLink "java/lang/Throwable" (202 : Nat) ({ cls := "java/lang/Throwable", name := "fillInStackTrace", desc := "(I)Ljava/lang/Throwable;" } : Jvm.MethodName)) ∈ bw := bw_of 277 (by decide +kernel) (by decide +kernel)
theorem bw_260 : (Jvm.Cond.instanceMethod ({ cls := "java/lang/Throwable", name := "fillInStackTrace", desc := "(I)Ljava/lang/Throwable;" } : Jvm.MethodName)) ∈ bw := bw_of 279 (by decide +kernel) (by decide +kernel)
theorem bw_261 : (Jvm.Cond.instantiable "java/lang/Throwable" (6 : Nat)) ∈ bw := bw_of 280 (by decide +kernel) (by decide +kernel)
theorem bw_262 : (Jvm.Cond.native ({ cls := "java/lang/Throwable", name := "fillInStackTrace", desc := "(I)Ljava/lang/Throwable;" } : Jvm.MethodName)) ∈ bw := bw_of 281 (by decide +kernel) (by decide +kernel)
theorem bw_264 : (Jvm.Cond.methodLink "PlaceDesk" (105 : Nat) ({ cls := "java/lang/IllegalArgumentException", name := "<init>", desc := "(Ljava/lang/String;)V" } : Jvm.MethodName)) ∈ bw := bw_of 283 (by decide +kernel) (by decide +kernel)
theorem bw_265 : (Jvm.Cond.instanceMethod ({ cls := "java/lang/IllegalArgumentException", name := "<init>", desc := "(Ljava/lang/String;)V" } : Jvm.MethodName)) ∈ bw := bw_of 284 (by decide +kernel) (by decide +kernel)
theorem bw_266 : (Jvm.Cond.code ({ cls := "java/lang/IllegalArgumentException", name := "<init>", desc := "(Ljava/lang/String;)V" } : Jvm.MethodName) prog_8_method_2_code (2 : Nat) (Option.none : Option Jvm.ClassFile.FieldType)) ∈ bw := bw_of 285 (by decide +kernel) (by decide +kernel)
theorem bw_267 : (Jvm.Cond.methodLink "java/lang/IllegalArgumentException" (7 : Nat) ({ cls := "java/lang/RuntimeException", name := "<init>", desc := "(Ljava/lang/String;)V" } : Jvm.MethodName)) ∈ bw := bw_of 286 (by decide +kernel) (by decide +kernel)
theorem bw_268 : (Jvm.Cond.instanceMethod ({ cls := "java/lang/RuntimeException", name := "<init>", desc := "(Ljava/lang/String;)V" } : Jvm.MethodName)) ∈ bw := bw_of 287 (by decide +kernel) (by decide +kernel)
theorem bw_269 : (Jvm.Cond.code ({ cls := "java/lang/RuntimeException", name := "<init>", desc := "(Ljava/lang/String;)V" } : Jvm.MethodName) prog_10_method_2_code (2 : Nat) (Option.none : Option Jvm.ClassFile.FieldType)) ∈ bw := bw_of 288 (by decide +kernel) (by decide +kernel)
theorem bw_270 : (Jvm.Cond.methodLink "java/lang/RuntimeException" (7 : Nat) ({ cls := "java/lang/Exception", name := "<init>", desc := "(Ljava/lang/String;)V" } : Jvm.MethodName)) ∈ bw := bw_of 289 (by decide +kernel) (by decide +kernel)
theorem bw_271 : (Jvm.Cond.instanceMethod ({ cls := "java/lang/Exception", name := "<init>", desc := "(Ljava/lang/String;)V" } : Jvm.MethodName)) ∈ bw := bw_of 290 (by decide +kernel) (by decide +kernel)
theorem bw_272 : (Jvm.Cond.code ({ cls := "java/lang/Exception", name := "<init>", desc := "(Ljava/lang/String;)V" } : Jvm.MethodName) prog_7_method_2_code (2 : Nat) (Option.none : Option Jvm.ClassFile.FieldType)) ∈ bw := bw_of 291 (by decide +kernel) (by decide +kernel)
theorem bw_273 : (Jvm.Cond.methodLink "java/lang/Exception" (7 : Nat) ({ cls := "java/lang/Throwable", name := "<init>", desc := "(Ljava/lang/String;)V" } : Jvm.MethodName)) ∈ bw := bw_of 292 (by decide +kernel) (by decide +kernel)
theorem bw_274 : (Jvm.Cond.instanceMethod ({ cls := "java/lang/Throwable", name := "<init>", desc := "(Ljava/lang/String;)V" } : Jvm.MethodName)) ∈ bw := bw_of 293 (by decide +kernel) (by decide +kernel)
theorem bw_275 : (Jvm.Cond.code ({ cls := "java/lang/Throwable", name := "<init>", desc := "(Ljava/lang/String;)V" } : Jvm.MethodName) prog_13_method_2_code (2 : Nat) (Option.none : Option Jvm.ClassFile.FieldType)) ∈ bw := bw_of 294 (by decide +kernel) (by decide +kernel)
theorem bw_276 : (Jvm.Cond.fieldLink "java/lang/Throwable" (198 : Nat) "java/lang/Throwable" "backtrace" "Ljava/lang/Object;") ∈ bw := bw_of 295 (by decide +kernel) (by decide +kernel)
theorem bw_277 : (Jvm.Cond.fieldLink "java/lang/Throwable" (31 : Nat) "java/lang/Throwable" "detailMessage" "Ljava/lang/String;") ∈ bw := bw_of 296 (by decide +kernel) (by decide +kernel)
theorem bw_278 : (Jvm.Cond.fieldLink "java/lang/Throwable" (7 : Nat) "java/lang/Throwable" "cause" "Ljava/lang/Throwable;") ∈ bw := bw_of 297 (by decide +kernel) (by decide +kernel)
theorem bw_279 : (Jvm.Cond.fieldLink "java/lang/Throwable" (17 : Nat) "java/lang/Throwable" "stackTrace" "[Ljava/lang/StackTraceElement;") ∈ bw := bw_of 298 (by decide +kernel) (by decide +kernel)
theorem bw_280 : (Jvm.Cond.fieldLink "java/lang/Throwable" (24 : Nat) "java/lang/Throwable" "suppressedExceptions" "Ljava/util/List;") ∈ bw := bw_of 299 (by decide +kernel) (by decide +kernel)
theorem bw_281 : (Jvm.Cond.soleField "java/lang/Throwable" "backtrace") ∈ bw := bw_of 300 (by decide +kernel) (by decide +kernel)
theorem bw_282 : (Jvm.Cond.soleField "java/lang/Throwable" "detailMessage") ∈ bw := bw_of 301 (by decide +kernel) (by decide +kernel)
theorem bw_283 : (Jvm.Cond.soleField "java/lang/Throwable" "cause") ∈ bw := bw_of 302 (by decide +kernel) (by decide +kernel)
theorem bw_284 : (Jvm.Cond.soleField "java/lang/Throwable" "stackTrace") ∈ bw := bw_of 303 (by decide +kernel) (by decide +kernel)
theorem bw_285 : (Jvm.Cond.lays "java/lang/IllegalArgumentException" "java/lang/Throwable" "depth" "I") ∈ bw := bw_of 304 (by decide +kernel) (by decide +kernel)
theorem bw_286 : (Jvm.Cond.soleField "java/lang/Throwable" "depth") ∈ bw := bw_of 305 (by decide +kernel) (by decide +kernel)
theorem bw_287 : (Jvm.Cond.soleField "java/lang/Throwable" "suppressedExceptions") ∈ bw := bw_of 306 (by decide +kernel) (by decide +kernel)
theorem bw_288 : (Jvm.Cond.superclass "java/lang/IllegalArgumentException" "java/lang/RuntimeException") ∈ bw := bw_of 307 (by decide +kernel) (by decide +kernel)
theorem bw_289 : (Jvm.Cond.arrayClass Jvm.ClassFile.FieldType.byte) ∈ bw := bw_of 308 (by decide +kernel) (by decide +kernel)
theorem bw_290 : (Jvm.Cond.methodLink "PlaceDesk" (108 : Nat) ({ cls := "PlaceDesk", name := "isActOf", desc := "(II)Z" } : Jvm.MethodName)) ∈ bw := bw_of 309 (by decide +kernel) (by decide +kernel)
theorem bw_291 : (Jvm.Cond.static ({ cls := "PlaceDesk", name := "isActOf", desc := "(II)Z" } : Jvm.MethodName)) ∈ bw := bw_of 310 (by decide +kernel) (by decide +kernel)
theorem bw_292 : (Jvm.Cond.code ({ cls := "PlaceDesk", name := "isActOf", desc := "(II)Z" } : Jvm.MethodName) prog_1_method_17_code (2 : Nat) (Option.some Jvm.ClassFile.FieldType.boolean)) ∈ bw := bw_of 311 (by decide +kernel) (by decide +kernel)
theorem bw_294 : (Jvm.Cond.methodLink "PlaceDesk" (113 : Nat) ({ cls := "PlaceDesk", name := "isValue", desc := "(IJ)Z" } : Jvm.MethodName)) ∈ bw := bw_of 313 (by decide +kernel) (by decide +kernel)
theorem bw_296 : (Jvm.Cond.instanceMethod ({ cls := "PlaceDesk", name := "isValue", desc := "(IJ)Z" } : Jvm.MethodName)) ∈ bw := bw_of 315 (by decide +kernel) (by decide +kernel)
theorem bw_297 : (Jvm.Cond.code ({ cls := "PlaceDesk", name := "isValue", desc := "(IJ)Z" } : Jvm.MethodName) prog_1_method_18_code (4 : Nat) (Option.some Jvm.ClassFile.FieldType.boolean)) ∈ bw := bw_of 316 (by decide +kernel) (by decide +kernel)
theorem bw_298 : (Jvm.Cond.methodLink "PlaceDesk" (148 : Nat) ({ cls := "PlaceDesk", name := "lowestBits", desc := "(IJ)J" } : Jvm.MethodName)) ∈ bw := bw_of 317 (by decide +kernel) (by decide +kernel)
theorem bw_299 : (Jvm.Cond.static ({ cls := "PlaceDesk", name := "lowestBits", desc := "(IJ)J" } : Jvm.MethodName)) ∈ bw := bw_of 318 (by decide +kernel) (by decide +kernel)
theorem bw_300 : (Jvm.Cond.code ({ cls := "PlaceDesk", name := "lowestBits", desc := "(IJ)J" } : Jvm.MethodName) prog_1_method_19_code (3 : Nat) (Option.some Jvm.ClassFile.FieldType.long)) ∈ bw := bw_of 319 (by decide +kernel) (by decide +kernel)
theorem bw_301 : (Jvm.Cond.constantLong "PlaceDesk" (152 : Nat) (65535 : Int64)) ∈ bw := bw_of 320 (by decide +kernel) (by decide +kernel)
theorem bw_304 : (Jvm.Cond.methodLink "PlaceDesk" (121 : Nat) ({ cls := "PlaceDesk", name := "perform", desc := "(LPlaceDesk$Spot;IJJ)J" } : Jvm.MethodName)) ∈ bw := bw_of 323 (by decide +kernel) (by decide +kernel)
theorem bw_306 : (Jvm.Cond.instanceMethod ({ cls := "PlaceDesk", name := "perform", desc := "(LPlaceDesk$Spot;IJJ)J" } : Jvm.MethodName)) ∈ bw := bw_of 325 (by decide +kernel) (by decide +kernel)
theorem bw_307 : (Jvm.Cond.code ({ cls := "PlaceDesk", name := "perform", desc := "(LPlaceDesk$Spot;IJJ)J" } : Jvm.MethodName) prog_1_method_26_code (9 : Nat) (Option.some Jvm.ClassFile.FieldType.long)) ∈ bw := bw_of 326 (by decide +kernel) (by decide +kernel)
theorem bw_308 : (Jvm.Cond.methodLink "PlaceDesk" (160 : Nat) ({ cls := "PlaceDesk", name := "read", desc := "(LPlaceDesk$Spot;)J" } : Jvm.MethodName)) ∈ bw := bw_of 327 (by decide +kernel) (by decide +kernel)
theorem bw_310 : (Jvm.Cond.instanceMethod ({ cls := "PlaceDesk", name := "read", desc := "(LPlaceDesk$Spot;)J" } : Jvm.MethodName)) ∈ bw := bw_of 329 (by decide +kernel) (by decide +kernel)
theorem bw_311 : (Jvm.Cond.code ({ cls := "PlaceDesk", name := "read", desc := "(LPlaceDesk$Spot;)J" } : Jvm.MethodName) prog_1_method_27_code (5 : Nat) (Option.some Jvm.ClassFile.FieldType.long)) ∈ bw := bw_of 330 (by decide +kernel) (by decide +kernel)
theorem bw_312 : (Jvm.Cond.methodLink "PlaceDesk" (178 : Nat) ({ cls := "PlaceDesk$Spot", name := "indexOfByte", desc := "(I)I" } : Jvm.MethodName)) ∈ bw := bw_of 331 (by decide +kernel) (by decide +kernel)
theorem bw_313 : (Jvm.Cond.instanceMethod ({ cls := "PlaceDesk$Spot", name := "indexOfByte", desc := "(I)I" } : Jvm.MethodName)) ∈ bw := bw_of 332 (by decide +kernel) (by decide +kernel)
theorem bw_314 : (Jvm.Cond.selects "PlaceDesk$Spot" ({ cls := "PlaceDesk$Spot", name := "indexOfByte", desc := "(I)I" } : Jvm.MethodName) ({ cls := "PlaceDesk$Spot", name := "indexOfByte", desc := "(I)I" } : Jvm.MethodName)) ∈ bw := bw_of 333 (by decide +kernel) (by decide +kernel)
theorem bw_315 : (Jvm.Cond.code ({ cls := "PlaceDesk$Spot", name := "indexOfByte", desc := "(I)I" } : Jvm.MethodName) prog_3_method_2_code (2 : Nat) (Option.some Jvm.ClassFile.FieldType.int)) ∈ bw := bw_of 334 (by decide +kernel) (by decide +kernel)
theorem bw_316 : (Jvm.Cond.constantLong "PlaceDesk" (181 : Nat) (255 : Int64)) ∈ bw := bw_of 335 (by decide +kernel) (by decide +kernel)
theorem bw_317 : (Jvm.Cond.methodLink "PlaceDesk" (164 : Nat) ({ cls := "PlaceDesk", name := "write", desc := "(LPlaceDesk$Spot;J)V" } : Jvm.MethodName)) ∈ bw := bw_of 336 (by decide +kernel) (by decide +kernel)
theorem bw_319 : (Jvm.Cond.instanceMethod ({ cls := "PlaceDesk", name := "write", desc := "(LPlaceDesk$Spot;J)V" } : Jvm.MethodName)) ∈ bw := bw_of 338 (by decide +kernel) (by decide +kernel)
theorem bw_320 : (Jvm.Cond.code ({ cls := "PlaceDesk", name := "write", desc := "(LPlaceDesk$Spot;J)V" } : Jvm.MethodName) prog_1_method_28_code (7 : Nat) (Option.none : Option Jvm.ClassFile.FieldType)) ∈ bw := bw_of 339 (by decide +kernel) (by decide +kernel)
theorem bw_321 : (Jvm.Cond.methodLink "PlaceDesk" (168 : Nat) ({ cls := "java/lang/Math", name := "max", desc := "(JJ)J" } : Jvm.MethodName)) ∈ bw := bw_of 340 (by decide +kernel) (by decide +kernel)
theorem bw_322 : (Jvm.Cond.static ({ cls := "java/lang/Math", name := "max", desc := "(JJ)J" } : Jvm.MethodName)) ∈ bw := bw_of 341 (by decide +kernel) (by decide +kernel)
theorem bw_323 : (Jvm.Cond.code ({ cls := "java/lang/Math", name := "max", desc := "(JJ)J" } : Jvm.MethodName) prog_9_method_66_code (4 : Nat) (Option.some Jvm.ClassFile.FieldType.long)) ∈ bw := bw_of 342 (by decide +kernel) (by decide +kernel)
theorem bw_324 : (Jvm.Cond.classLink "PlaceDeskLaw" (16 : Nat) "PlaceDeskModel") ∈ bw := bw_of 343 (by decide +kernel) (by decide +kernel)
theorem bw_325 : (Jvm.Cond.instantiable "PlaceDeskModel" (18 : Nat)) ∈ bw := bw_of 344 (by decide +kernel) (by decide +kernel)
theorem bw_326 : (Jvm.Cond.methodLink "PlaceDeskLaw" (18 : Nat) ({ cls := "PlaceDeskModel", name := "<init>", desc := "()V" } : Jvm.MethodName)) ∈ bw := bw_of 345 (by decide +kernel) (by decide +kernel)
theorem bw_327 : (Jvm.Cond.instanceMethod ({ cls := "PlaceDeskModel", name := "<init>", desc := "()V" } : Jvm.MethodName)) ∈ bw := bw_of 346 (by decide +kernel) (by decide +kernel)
theorem bw_328 : (Jvm.Cond.code ({ cls := "PlaceDeskModel", name := "<init>", desc := "()V" } : Jvm.MethodName) prog_6_method_1_code (1 : Nat) (Option.none : Option Jvm.ClassFile.FieldType)) ∈ bw := bw_of 347 (by decide +kernel) (by decide +kernel)
theorem bw_329 : (Jvm.Cond.methodLink "PlaceDeskModel" (1 : Nat) ({ cls := "java/lang/Object", name := "<init>", desc := "()V" } : Jvm.MethodName)) ∈ bw := bw_of 348 (by decide +kernel) (by decide +kernel)
theorem bw_330 : (Jvm.Cond.constant "PlaceDeskModel" (42 : Nat) (80000 : Int32)) ∈ bw := bw_of 349 (by decide +kernel) (by decide +kernel)
theorem bw_331 : (Jvm.Cond.fieldLink "PlaceDeskModel" (7 : Nat) "PlaceDeskModel" "element" "[J") ∈ bw := bw_of 350 (by decide +kernel) (by decide +kernel)
theorem bw_332 : (Jvm.Cond.fieldLink "PlaceDeskModel" (13 : Nat) "PlaceDeskModel" "elementKind" "[I") ∈ bw := bw_of 351 (by decide +kernel) (by decide +kernel)
theorem bw_333 : (Jvm.Cond.fieldLink "PlaceDeskModel" (56 : Nat) "PlaceDeskModel" "elements" "I") ∈ bw := bw_of 352 (by decide +kernel) (by decide +kernel)
theorem bw_334 : (Jvm.Cond.fieldLink "PlaceDeskModel" (17 : Nat) "PlaceDeskModel" "begins" "[I") ∈ bw := bw_of 353 (by decide +kernel) (by decide +kernel)
theorem bw_335 : (Jvm.Cond.fieldLink "PlaceDeskModel" (20 : Nat) "PlaceDeskModel" "sizes" "[I") ∈ bw := bw_of 354 (by decide +kernel) (by decide +kernel)
theorem bw_336 : (Jvm.Cond.fieldLink "PlaceDeskModel" (23 : Nat) "PlaceDeskModel" "kind" "[I") ∈ bw := bw_of 355 (by decide +kernel) (by decide +kernel)
theorem bw_337 : (Jvm.Cond.fieldLink "PlaceDeskModel" (53 : Nat) "PlaceDeskModel" "objects" "I") ∈ bw := bw_of 356 (by decide +kernel) (by decide +kernel)
theorem bw_338 : (Jvm.Cond.fieldLink "PlaceDeskModel" (26 : Nat) "PlaceDeskModel" "row" "[I") ∈ bw := bw_of 357 (by decide +kernel) (by decide +kernel)
theorem bw_339 : (Jvm.Cond.fieldLink "PlaceDeskModel" (69 : Nat) "PlaceDeskModel" "rowSize" "I") ∈ bw := bw_of 358 (by decide +kernel) (by decide +kernel)
theorem bw_340 : (Jvm.Cond.fieldLink "PlaceDeskModel" (29 : Nat) "PlaceDeskModel" "placeAt" "[I") ∈ bw := bw_of 359 (by decide +kernel) (by decide +kernel)
theorem bw_341 : (Jvm.Cond.fieldLink "PlaceDeskModel" (32 : Nat) "PlaceDeskModel" "placeKind" "[I") ∈ bw := bw_of 360 (by decide +kernel) (by decide +kernel)
theorem bw_342 : (Jvm.Cond.fieldLink "PlaceDeskModel" (35 : Nat) "PlaceDeskModel" "width" "[I") ∈ bw := bw_of 361 (by decide +kernel) (by decide +kernel)
theorem bw_343 : (Jvm.Cond.fieldLink "PlaceDeskModel" (38 : Nat) "PlaceDeskModel" "low" "[Z") ∈ bw := bw_of 362 (by decide +kernel) (by decide +kernel)
theorem bw_344 : (Jvm.Cond.fieldLink "PlaceDeskModel" (75 : Nat) "PlaceDeskModel" "places" "I") ∈ bw := bw_of 363 (by decide +kernel) (by decide +kernel)
theorem bw_345 : (Jvm.Cond.fieldLink "PlaceDeskModel" (43 : Nat) "PlaceDeskModel" "kept" "[J") ∈ bw := bw_of 364 (by decide +kernel) (by decide +kernel)
theorem bw_346 : (Jvm.Cond.fieldLink "PlaceDeskModel" (46 : Nat) "PlaceDeskModel" "keptSize" "[I") ∈ bw := bw_of 365 (by decide +kernel) (by decide +kernel)
theorem bw_347 : (Jvm.Cond.fieldLink "PlaceDeskModel" (105 : Nat) "PlaceDeskModel" "marks" "I") ∈ bw := bw_of 366 (by decide +kernel) (by decide +kernel)
theorem bw_348 : (Jvm.Cond.fieldLink "PlaceDeskModel" (49 : Nat) "PlaceDeskModel" "thrown" "I") ∈ bw := bw_of 367 (by decide +kernel) (by decide +kernel)
theorem bw_349 : (Jvm.Cond.laysFinal "PlaceDeskModel" "PlaceDeskModel" "element" "[J") ∈ bw := bw_of 368 (by decide +kernel) (by decide +kernel)
theorem bw_350 : (Jvm.Cond.soleField "PlaceDeskModel" "element") ∈ bw := bw_of 369 (by decide +kernel) (by decide +kernel)
theorem bw_351 : (Jvm.Cond.laysFinal "PlaceDeskModel" "PlaceDeskModel" "elementKind" "[I") ∈ bw := bw_of 370 (by decide +kernel) (by decide +kernel)
theorem bw_352 : (Jvm.Cond.soleField "PlaceDeskModel" "elementKind") ∈ bw := bw_of 371 (by decide +kernel) (by decide +kernel)
theorem bw_353 : (Jvm.Cond.lays "PlaceDeskModel" "PlaceDeskModel" "elements" "I") ∈ bw := bw_of 372 (by decide +kernel) (by decide +kernel)
theorem bw_354 : (Jvm.Cond.soleField "PlaceDeskModel" "elements") ∈ bw := bw_of 373 (by decide +kernel) (by decide +kernel)
theorem bw_355 : (Jvm.Cond.laysFinal "PlaceDeskModel" "PlaceDeskModel" "begins" "[I") ∈ bw := bw_of 374 (by decide +kernel) (by decide +kernel)
theorem bw_356 : (Jvm.Cond.soleField "PlaceDeskModel" "begins") ∈ bw := bw_of 375 (by decide +kernel) (by decide +kernel)
theorem bw_357 : (Jvm.Cond.laysFinal "PlaceDeskModel" "PlaceDeskModel" "sizes" "[I") ∈ bw := bw_of 376 (by decide +kernel) (by decide +kernel)
theorem bw_358 : (Jvm.Cond.soleField "PlaceDeskModel" "sizes") ∈ bw := bw_of 377 (by decide +kernel) (by decide +kernel)
theorem bw_359 : (Jvm.Cond.laysFinal "PlaceDeskModel" "PlaceDeskModel" "kind" "[I") ∈ bw := bw_of 378 (by decide +kernel) (by decide +kernel)
theorem bw_360 : (Jvm.Cond.soleField "PlaceDeskModel" "kind") ∈ bw := bw_of 379 (by decide +kernel) (by decide +kernel)
theorem bw_361 : (Jvm.Cond.lays "PlaceDeskModel" "PlaceDeskModel" "objects" "I") ∈ bw := bw_of 380 (by decide +kernel) (by decide +kernel)
theorem bw_362 : (Jvm.Cond.soleField "PlaceDeskModel" "objects") ∈ bw := bw_of 381 (by decide +kernel) (by decide +kernel)
theorem bw_363 : (Jvm.Cond.laysFinal "PlaceDeskModel" "PlaceDeskModel" "row" "[I") ∈ bw := bw_of 382 (by decide +kernel) (by decide +kernel)
theorem bw_364 : (Jvm.Cond.soleField "PlaceDeskModel" "row") ∈ bw := bw_of 383 (by decide +kernel) (by decide +kernel)
theorem bw_365 : (Jvm.Cond.lays "PlaceDeskModel" "PlaceDeskModel" "rowSize" "I") ∈ bw := bw_of 384 (by decide +kernel) (by decide +kernel)
theorem bw_366 : (Jvm.Cond.soleField "PlaceDeskModel" "rowSize") ∈ bw := bw_of 385 (by decide +kernel) (by decide +kernel)
theorem bw_367 : (Jvm.Cond.laysFinal "PlaceDeskModel" "PlaceDeskModel" "placeAt" "[I") ∈ bw := bw_of 386 (by decide +kernel) (by decide +kernel)
theorem bw_368 : (Jvm.Cond.soleField "PlaceDeskModel" "placeAt") ∈ bw := bw_of 387 (by decide +kernel) (by decide +kernel)
theorem bw_369 : (Jvm.Cond.laysFinal "PlaceDeskModel" "PlaceDeskModel" "placeKind" "[I") ∈ bw := bw_of 388 (by decide +kernel) (by decide +kernel)
theorem bw_370 : (Jvm.Cond.soleField "PlaceDeskModel" "placeKind") ∈ bw := bw_of 389 (by decide +kernel) (by decide +kernel)
theorem bw_371 : (Jvm.Cond.laysFinal "PlaceDeskModel" "PlaceDeskModel" "width" "[I") ∈ bw := bw_of 390 (by decide +kernel) (by decide +kernel)
theorem bw_372 : (Jvm.Cond.soleField "PlaceDeskModel" "width") ∈ bw := bw_of 391 (by decide +kernel) (by decide +kernel)
theorem bw_373 : (Jvm.Cond.laysFinal "PlaceDeskModel" "PlaceDeskModel" "low" "[Z") ∈ bw := bw_of 392 (by decide +kernel) (by decide +kernel)
theorem bw_374 : (Jvm.Cond.soleField "PlaceDeskModel" "low") ∈ bw := bw_of 393 (by decide +kernel) (by decide +kernel)
theorem bw_375 : (Jvm.Cond.lays "PlaceDeskModel" "PlaceDeskModel" "places" "I") ∈ bw := bw_of 394 (by decide +kernel) (by decide +kernel)
theorem bw_376 : (Jvm.Cond.soleField "PlaceDeskModel" "places") ∈ bw := bw_of 395 (by decide +kernel) (by decide +kernel)
theorem bw_377 : (Jvm.Cond.laysFinal "PlaceDeskModel" "PlaceDeskModel" "kept" "[J") ∈ bw := bw_of 396 (by decide +kernel) (by decide +kernel)
theorem bw_378 : (Jvm.Cond.soleField "PlaceDeskModel" "kept") ∈ bw := bw_of 397 (by decide +kernel) (by decide +kernel)
theorem bw_379 : (Jvm.Cond.laysFinal "PlaceDeskModel" "PlaceDeskModel" "keptSize" "[I") ∈ bw := bw_of 398 (by decide +kernel) (by decide +kernel)
theorem bw_380 : (Jvm.Cond.soleField "PlaceDeskModel" "keptSize") ∈ bw := bw_of 399 (by decide +kernel) (by decide +kernel)
theorem bw_381 : (Jvm.Cond.lays "PlaceDeskModel" "PlaceDeskModel" "marks" "I") ∈ bw := bw_of 400 (by decide +kernel) (by decide +kernel)
theorem bw_382 : (Jvm.Cond.soleField "PlaceDeskModel" "marks") ∈ bw := bw_of 401 (by decide +kernel) (by decide +kernel)
theorem bw_383 : (Jvm.Cond.lays "PlaceDeskModel" "PlaceDeskModel" "thrown" "I") ∈ bw := bw_of 402 (by decide +kernel) (by decide +kernel)
theorem bw_384 : (Jvm.Cond.soleField "PlaceDeskModel" "thrown") ∈ bw := bw_of 403 (by decide +kernel) (by decide +kernel)
theorem bw_385 : (Jvm.Cond.superclass "PlaceDeskModel" "java/lang/Object") ∈ bw := bw_of 404 (by decide +kernel) (by decide +kernel)
theorem bw_386 : (Jvm.Cond.arrayClass Jvm.ClassFile.FieldType.boolean) ∈ bw := bw_of 405 (by decide +kernel) (by decide +kernel)
theorem bw_387 : (Jvm.Cond.methodLink "PlaceDeskLaw" (60 : Nat) ({ cls := "PlaceDeskModel", name := "thrown", desc := "()I" } : Jvm.MethodName)) ∈ bw := bw_of 406 (by decide +kernel) (by decide +kernel)
theorem bw_388 : (Jvm.Cond.instanceMethod ({ cls := "PlaceDeskModel", name := "thrown", desc := "()I" } : Jvm.MethodName)) ∈ bw := bw_of 407 (by decide +kernel) (by decide +kernel)
theorem bw_389 : (Jvm.Cond.selects "PlaceDeskModel" ({ cls := "PlaceDeskModel", name := "thrown", desc := "()I" } : Jvm.MethodName) ({ cls := "PlaceDeskModel", name := "thrown", desc := "()I" } : Jvm.MethodName)) ∈ bw := bw_of 408 (by decide +kernel) (by decide +kernel)
theorem bw_390 : (Jvm.Cond.code ({ cls := "PlaceDeskModel", name := "thrown", desc := "()I" } : Jvm.MethodName) prog_6_method_2_code (1 : Nat) (Option.some Jvm.ClassFile.FieldType.int)) ∈ bw := bw_of 409 (by decide +kernel) (by decide +kernel)
theorem bw_391 : (Jvm.Cond.methodLink "PlaceDeskLaw" (23 : Nat) ({ cls := "PlaceDeskModel", name := "row", desc := "(II)I" } : Jvm.MethodName)) ∈ bw := bw_of 410 (by decide +kernel) (by decide +kernel)
theorem bw_392 : (Jvm.Cond.instanceMethod ({ cls := "PlaceDeskModel", name := "row", desc := "(II)I" } : Jvm.MethodName)) ∈ bw := bw_of 411 (by decide +kernel) (by decide +kernel)
theorem bw_393 : (Jvm.Cond.selects "PlaceDeskModel" ({ cls := "PlaceDeskModel", name := "row", desc := "(II)I" } : Jvm.MethodName) ({ cls := "PlaceDeskModel", name := "row", desc := "(II)I" } : Jvm.MethodName)) ∈ bw := bw_of 412 (by decide +kernel) (by decide +kernel)
theorem bw_394 : (Jvm.Cond.code ({ cls := "PlaceDeskModel", name := "row", desc := "(II)I" } : Jvm.MethodName) prog_6_method_5_code (3 : Nat) (Option.some Jvm.ClassFile.FieldType.int)) ∈ bw := bw_of 413 (by decide +kernel) (by decide +kernel)
theorem bw_395 : (Jvm.Cond.methodLink "PlaceDeskModel" (61 : Nat) ({ cls := "PlaceDeskModel", name := "isKind", desc := "(I)Z" } : Jvm.MethodName)) ∈ bw := bw_of 414 (by decide +kernel) (by decide +kernel)
theorem bw_396 : (Jvm.Cond.static ({ cls := "PlaceDeskModel", name := "isKind", desc := "(I)Z" } : Jvm.MethodName)) ∈ bw := bw_of 415 (by decide +kernel) (by decide +kernel)
theorem bw_397 : (Jvm.Cond.code ({ cls := "PlaceDeskModel", name := "isKind", desc := "(I)Z" } : Jvm.MethodName) prog_6_method_3_code (1 : Nat) (Option.some Jvm.ClassFile.FieldType.boolean)) ∈ bw := bw_of 416 (by decide +kernel) (by decide +kernel)
theorem bw_398 : (Jvm.Cond.methodLink "PlaceDeskModel" (65 : Nat) ({ cls := "PlaceDeskModel", name := "newObject", desc := "(II)I" } : Jvm.MethodName)) ∈ bw := bw_of 417 (by decide +kernel) (by decide +kernel)
theorem bw_400 : (Jvm.Cond.instanceMethod ({ cls := "PlaceDeskModel", name := "newObject", desc := "(II)I" } : Jvm.MethodName)) ∈ bw := bw_of 419 (by decide +kernel) (by decide +kernel)
theorem bw_401 : (Jvm.Cond.code ({ cls := "PlaceDeskModel", name := "newObject", desc := "(II)I" } : Jvm.MethodName) prog_6_method_4_code (4 : Nat) (Option.some Jvm.ClassFile.FieldType.int)) ∈ bw := bw_of 420 (by decide +kernel) (by decide +kernel)
theorem bw_402 : (Jvm.Cond.constantLong "PlaceDeskModel" (59 : Nat) (-1 : Int64)) ∈ bw := bw_of 421 (by decide +kernel) (by decide +kernel)
theorem bw_403 : (Jvm.Cond.methodLink "PlaceDeskLaw" (28 : Nat) ({ cls := "PlaceDeskModel", name := "put", desc := "(I)Z" } : Jvm.MethodName)) ∈ bw := bw_of 422 (by decide +kernel) (by decide +kernel)
theorem bw_404 : (Jvm.Cond.instanceMethod ({ cls := "PlaceDeskModel", name := "put", desc := "(I)Z" } : Jvm.MethodName)) ∈ bw := bw_of 423 (by decide +kernel) (by decide +kernel)
theorem bw_405 : (Jvm.Cond.selects "PlaceDeskModel" ({ cls := "PlaceDeskModel", name := "put", desc := "(I)Z" } : Jvm.MethodName) ({ cls := "PlaceDeskModel", name := "put", desc := "(I)Z" } : Jvm.MethodName)) ∈ bw := bw_of 424 (by decide +kernel) (by decide +kernel)
theorem bw_406 : (Jvm.Cond.code ({ cls := "PlaceDeskModel", name := "put", desc := "(I)Z" } : Jvm.MethodName) prog_6_method_6_code (2 : Nat) (Option.some Jvm.ClassFile.FieldType.boolean)) ∈ bw := bw_of 425 (by decide +kernel) (by decide +kernel)
theorem bw_407 : (Jvm.Cond.methodLink "PlaceDeskLaw" (33 : Nat) ({ cls := "PlaceDeskModel", name := "instance", desc := "()I" } : Jvm.MethodName)) ∈ bw := bw_of 426 (by decide +kernel) (by decide +kernel)
theorem bw_408 : (Jvm.Cond.instanceMethod ({ cls := "PlaceDeskModel", name := "instance", desc := "()I" } : Jvm.MethodName)) ∈ bw := bw_of 427 (by decide +kernel) (by decide +kernel)
theorem bw_409 : (Jvm.Cond.selects "PlaceDeskModel" ({ cls := "PlaceDeskModel", name := "instance", desc := "()I" } : Jvm.MethodName) ({ cls := "PlaceDeskModel", name := "instance", desc := "()I" } : Jvm.MethodName)) ∈ bw := bw_of 428 (by decide +kernel) (by decide +kernel)
theorem bw_410 : (Jvm.Cond.code ({ cls := "PlaceDeskModel", name := "instance", desc := "()I" } : Jvm.MethodName) prog_6_method_7_code (2 : Nat) (Option.some Jvm.ClassFile.FieldType.int)) ∈ bw := bw_of 429 (by decide +kernel) (by decide +kernel)
theorem bw_411 : (Jvm.Cond.methodLink "PlaceDeskLaw" (37 : Nat) ({ cls := "PlaceDeskModel", name := "object", desc := "(II)I" } : Jvm.MethodName)) ∈ bw := bw_of 430 (by decide +kernel) (by decide +kernel)
theorem bw_412 : (Jvm.Cond.instanceMethod ({ cls := "PlaceDeskModel", name := "object", desc := "(II)I" } : Jvm.MethodName)) ∈ bw := bw_of 431 (by decide +kernel) (by decide +kernel)
theorem bw_413 : (Jvm.Cond.selects "PlaceDeskModel" ({ cls := "PlaceDeskModel", name := "object", desc := "(II)I" } : Jvm.MethodName) ({ cls := "PlaceDeskModel", name := "object", desc := "(II)I" } : Jvm.MethodName)) ∈ bw := bw_of 432 (by decide +kernel) (by decide +kernel)
theorem bw_414 : (Jvm.Cond.code ({ cls := "PlaceDeskModel", name := "object", desc := "(II)I" } : Jvm.MethodName) prog_6_method_9_code (3 : Nat) (Option.some Jvm.ClassFile.FieldType.int)) ∈ bw := bw_of 433 (by decide +kernel) (by decide +kernel)
theorem bw_415 : (Jvm.Cond.methodLink "PlaceDeskModel" (72 : Nat) ({ cls := "PlaceDeskModel", name := "isObject", desc := "(I)Z" } : Jvm.MethodName)) ∈ bw := bw_of 434 (by decide +kernel) (by decide +kernel)
theorem bw_417 : (Jvm.Cond.instanceMethod ({ cls := "PlaceDeskModel", name := "isObject", desc := "(I)Z" } : Jvm.MethodName)) ∈ bw := bw_of 436 (by decide +kernel) (by decide +kernel)
theorem bw_418 : (Jvm.Cond.code ({ cls := "PlaceDeskModel", name := "isObject", desc := "(I)Z" } : Jvm.MethodName) prog_6_method_8_code (2 : Nat) (Option.some Jvm.ClassFile.FieldType.boolean)) ∈ bw := bw_of 437 (by decide +kernel) (by decide +kernel)
theorem bw_419 : (Jvm.Cond.methodLink "PlaceDeskLaw" (41 : Nat) ({ cls := "PlaceDeskModel", name := "place", desc := "(II)I" } : Jvm.MethodName)) ∈ bw := bw_of 438 (by decide +kernel) (by decide +kernel)
theorem bw_420 : (Jvm.Cond.instanceMethod ({ cls := "PlaceDeskModel", name := "place", desc := "(II)I" } : Jvm.MethodName)) ∈ bw := bw_of 439 (by decide +kernel) (by decide +kernel)
theorem bw_421 : (Jvm.Cond.selects "PlaceDeskModel" ({ cls := "PlaceDeskModel", name := "place", desc := "(II)I" } : Jvm.MethodName) ({ cls := "PlaceDeskModel", name := "place", desc := "(II)I" } : Jvm.MethodName)) ∈ bw := bw_of 440 (by decide +kernel) (by decide +kernel)
theorem bw_422 : (Jvm.Cond.code ({ cls := "PlaceDeskModel", name := "place", desc := "(II)I" } : Jvm.MethodName) prog_6_method_11_code (3 : Nat) (Option.some Jvm.ClassFile.FieldType.int)) ∈ bw := bw_of 441 (by decide +kernel) (by decide +kernel)
theorem bw_423 : (Jvm.Cond.methodLink "PlaceDeskModel" (78 : Nat) ({ cls := "PlaceDeskModel", name := "newPlace", desc := "(IIIZ)I" } : Jvm.MethodName)) ∈ bw := bw_of 442 (by decide +kernel) (by decide +kernel)
theorem bw_425 : (Jvm.Cond.instanceMethod ({ cls := "PlaceDeskModel", name := "newPlace", desc := "(IIIZ)I" } : Jvm.MethodName)) ∈ bw := bw_of 444 (by decide +kernel) (by decide +kernel)
theorem bw_426 : (Jvm.Cond.code ({ cls := "PlaceDeskModel", name := "newPlace", desc := "(IIIZ)I" } : Jvm.MethodName) prog_6_method_10_code (5 : Nat) (Option.some Jvm.ClassFile.FieldType.int)) ∈ bw := bw_of 445 (by decide +kernel) (by decide +kernel)
theorem bw_427 : (Jvm.Cond.methodLink "PlaceDeskLaw" (46 : Nat) ({ cls := "PlaceDeskModel", name := "view", desc := "(IIIZ)I" } : Jvm.MethodName)) ∈ bw := bw_of 446 (by decide +kernel) (by decide +kernel)
theorem bw_428 : (Jvm.Cond.instanceMethod ({ cls := "PlaceDeskModel", name := "view", desc := "(IIIZ)I" } : Jvm.MethodName)) ∈ bw := bw_of 447 (by decide +kernel) (by decide +kernel)
theorem bw_429 : (Jvm.Cond.selects "PlaceDeskModel" ({ cls := "PlaceDeskModel", name := "view", desc := "(IIIZ)I" } : Jvm.MethodName) ({ cls := "PlaceDeskModel", name := "view", desc := "(IIIZ)I" } : Jvm.MethodName)) ∈ bw := bw_of 448 (by decide +kernel) (by decide +kernel)
theorem bw_430 : (Jvm.Cond.code ({ cls := "PlaceDeskModel", name := "view", desc := "(IIIZ)I" } : Jvm.MethodName) prog_6_method_12_code (6 : Nat) (Option.some Jvm.ClassFile.FieldType.int)) ∈ bw := bw_of 449 (by decide +kernel) (by decide +kernel)
theorem bw_431 : (Jvm.Cond.methodLink "PlaceDeskLaw" (51 : Nat) ({ cls := "PlaceDeskModel", name := "kindOf", desc := "(I)I" } : Jvm.MethodName)) ∈ bw := bw_of 450 (by decide +kernel) (by decide +kernel)
theorem bw_432 : (Jvm.Cond.instanceMethod ({ cls := "PlaceDeskModel", name := "kindOf", desc := "(I)I" } : Jvm.MethodName)) ∈ bw := bw_of 451 (by decide +kernel) (by decide +kernel)
theorem bw_433 : (Jvm.Cond.selects "PlaceDeskModel" ({ cls := "PlaceDeskModel", name := "kindOf", desc := "(I)I" } : Jvm.MethodName) ({ cls := "PlaceDeskModel", name := "kindOf", desc := "(I)I" } : Jvm.MethodName)) ∈ bw := bw_of 452 (by decide +kernel) (by decide +kernel)
theorem bw_434 : (Jvm.Cond.code ({ cls := "PlaceDeskModel", name := "kindOf", desc := "(I)I" } : Jvm.MethodName) prog_6_method_14_code (2 : Nat) (Option.some Jvm.ClassFile.FieldType.int)) ∈ bw := bw_of 453 (by decide +kernel) (by decide +kernel)
theorem bw_435 : (Jvm.Cond.methodLink "PlaceDeskModel" (82 : Nat) ({ cls := "PlaceDeskModel", name := "isPlace", desc := "(I)Z" } : Jvm.MethodName)) ∈ bw := bw_of 454 (by decide +kernel) (by decide +kernel)
theorem bw_437 : (Jvm.Cond.instanceMethod ({ cls := "PlaceDeskModel", name := "isPlace", desc := "(I)Z" } : Jvm.MethodName)) ∈ bw := bw_of 456 (by decide +kernel) (by decide +kernel)
theorem bw_438 : (Jvm.Cond.code ({ cls := "PlaceDeskModel", name := "isPlace", desc := "(I)Z" } : Jvm.MethodName) prog_6_method_13_code (2 : Nat) (Option.some Jvm.ClassFile.FieldType.boolean)) ∈ bw := bw_of 457 (by decide +kernel) (by decide +kernel)
theorem bw_439 : (Jvm.Cond.methodLink "PlaceDeskLaw" (59 : Nat) ({ cls := "PlaceDeskModel", name := "act", desc := "(IIJJ)J" } : Jvm.MethodName)) ∈ bw := bw_of 458 (by decide +kernel) (by decide +kernel)
theorem bw_440 : (Jvm.Cond.instanceMethod ({ cls := "PlaceDeskModel", name := "act", desc := "(IIJJ)J" } : Jvm.MethodName)) ∈ bw := bw_of 459 (by decide +kernel) (by decide +kernel)
theorem bw_441 : (Jvm.Cond.selects "PlaceDeskModel" ({ cls := "PlaceDeskModel", name := "act", desc := "(IIJJ)J" } : Jvm.MethodName) ({ cls := "PlaceDeskModel", name := "act", desc := "(IIJJ)J" } : Jvm.MethodName)) ∈ bw := bw_of 460 (by decide +kernel) (by decide +kernel)
theorem bw_442 : (Jvm.Cond.code ({ cls := "PlaceDeskModel", name := "act", desc := "(IIJJ)J" } : Jvm.MethodName) prog_6_method_19_code (11 : Nat) (Option.some Jvm.ClassFile.FieldType.long)) ∈ bw := bw_of 461 (by decide +kernel) (by decide +kernel)
theorem bw_443 : (Jvm.Cond.methodLink "PlaceDeskModel" (93 : Nat) ({ cls := "PlaceDeskModel", name := "isValue", desc := "(IJ)Z" } : Jvm.MethodName)) ∈ bw := bw_of 462 (by decide +kernel) (by decide +kernel)
theorem bw_445 : (Jvm.Cond.instanceMethod ({ cls := "PlaceDeskModel", name := "isValue", desc := "(IJ)Z" } : Jvm.MethodName)) ∈ bw := bw_of 464 (by decide +kernel) (by decide +kernel)
theorem bw_446 : (Jvm.Cond.code ({ cls := "PlaceDeskModel", name := "isValue", desc := "(IJ)Z" } : Jvm.MethodName) prog_6_method_16_code (4 : Nat) (Option.some Jvm.ClassFile.FieldType.boolean)) ∈ bw := bw_of 465 (by decide +kernel) (by decide +kernel)
theorem bw_447 : (Jvm.Cond.methodLink "PlaceDeskModel" (87 : Nat) ({ cls := "PlaceDeskModel", name := "as", desc := "(IJ)J" } : Jvm.MethodName)) ∈ bw := bw_of 466 (by decide +kernel) (by decide +kernel)
theorem bw_448 : (Jvm.Cond.static ({ cls := "PlaceDeskModel", name := "as", desc := "(IJ)J" } : Jvm.MethodName)) ∈ bw := bw_of 467 (by decide +kernel) (by decide +kernel)
theorem bw_449 : (Jvm.Cond.code ({ cls := "PlaceDeskModel", name := "as", desc := "(IJ)J" } : Jvm.MethodName) prog_6_method_15_code (3 : Nat) (Option.some Jvm.ClassFile.FieldType.long)) ∈ bw := bw_of 468 (by decide +kernel) (by decide +kernel)
theorem bw_450 : (Jvm.Cond.constantLong "PlaceDeskModel" (85 : Nat) (65535 : Int64)) ∈ bw := bw_of 469 (by decide +kernel) (by decide +kernel)
theorem bw_451 : (Jvm.Cond.methodLink "PlaceDeskModel" (97 : Nat) ({ cls := "PlaceDeskModel", name := "get", desc := "(I)J" } : Jvm.MethodName)) ∈ bw := bw_of 470 (by decide +kernel) (by decide +kernel)
theorem bw_453 : (Jvm.Cond.instanceMethod ({ cls := "PlaceDeskModel", name := "get", desc := "(I)J" } : Jvm.MethodName)) ∈ bw := bw_of 472 (by decide +kernel) (by decide +kernel)
theorem bw_454 : (Jvm.Cond.code ({ cls := "PlaceDeskModel", name := "get", desc := "(I)J" } : Jvm.MethodName) prog_6_method_17_code (6 : Nat) (Option.some Jvm.ClassFile.FieldType.long)) ∈ bw := bw_of 473 (by decide +kernel) (by decide +kernel)
theorem bw_455 : (Jvm.Cond.constantLong "PlaceDeskModel" (91 : Nat) (255 : Int64)) ∈ bw := bw_of 474 (by decide +kernel) (by decide +kernel)
theorem bw_456 : (Jvm.Cond.methodLink "PlaceDeskModel" (101 : Nat) ({ cls := "PlaceDeskModel", name := "set", desc := "(IJ)V" } : Jvm.MethodName)) ∈ bw := bw_of 475 (by decide +kernel) (by decide +kernel)
theorem bw_458 : (Jvm.Cond.instanceMethod ({ cls := "PlaceDeskModel", name := "set", desc := "(IJ)V" } : Jvm.MethodName)) ∈ bw := bw_of 477 (by decide +kernel) (by decide +kernel)
theorem bw_459 : (Jvm.Cond.code ({ cls := "PlaceDeskModel", name := "set", desc := "(IJ)V" } : Jvm.MethodName) prog_6_method_18_code (6 : Nat) (Option.none : Option Jvm.ClassFile.FieldType)) ∈ bw := bw_of 478 (by decide +kernel) (by decide +kernel)
theorem bw_460 : (Jvm.Cond.methodLink "PlaceDeskLaw" (67 : Nat) ({ cls := "PlaceDeskModel", name := "copy", desc := "(IIIII)Z" } : Jvm.MethodName)) ∈ bw := bw_of 479 (by decide +kernel) (by decide +kernel)
theorem bw_461 : (Jvm.Cond.instanceMethod ({ cls := "PlaceDeskModel", name := "copy", desc := "(IIIII)Z" } : Jvm.MethodName)) ∈ bw := bw_of 480 (by decide +kernel) (by decide +kernel)
theorem bw_462 : (Jvm.Cond.selects "PlaceDeskModel" ({ cls := "PlaceDeskModel", name := "copy", desc := "(IIIII)Z" } : Jvm.MethodName) ({ cls := "PlaceDeskModel", name := "copy", desc := "(IIIII)Z" } : Jvm.MethodName)) ∈ bw := bw_of 481 (by decide +kernel) (by decide +kernel)
theorem bw_463 : (Jvm.Cond.code ({ cls := "PlaceDeskModel", name := "copy", desc := "(IIIII)Z" } : Jvm.MethodName) prog_6_method_20_code (10 : Nat) (Option.some Jvm.ClassFile.FieldType.boolean)) ∈ bw := bw_of 482 (by decide +kernel) (by decide +kernel)
theorem bw_464 : (Jvm.Cond.methodLink "PlaceDeskLaw" (72 : Nat) ({ cls := "PlaceDeskModel", name := "meet", desc := "(II)Z" } : Jvm.MethodName)) ∈ bw := bw_of 483 (by decide +kernel) (by decide +kernel)
theorem bw_465 : (Jvm.Cond.instanceMethod ({ cls := "PlaceDeskModel", name := "meet", desc := "(II)Z" } : Jvm.MethodName)) ∈ bw := bw_of 484 (by decide +kernel) (by decide +kernel)
theorem bw_466 : (Jvm.Cond.selects "PlaceDeskModel" ({ cls := "PlaceDeskModel", name := "meet", desc := "(II)Z" } : Jvm.MethodName) ({ cls := "PlaceDeskModel", name := "meet", desc := "(II)Z" } : Jvm.MethodName)) ∈ bw := bw_of 485 (by decide +kernel) (by decide +kernel)
theorem bw_467 : (Jvm.Cond.code ({ cls := "PlaceDeskModel", name := "meet", desc := "(II)Z" } : Jvm.MethodName) prog_6_method_21_code (3 : Nat) (Option.some Jvm.ClassFile.FieldType.boolean)) ∈ bw := bw_of 486 (by decide +kernel) (by decide +kernel)
theorem bw_468 : (Jvm.Cond.methodLink "PlaceDeskLaw" (76 : Nat) ({ cls := "PlaceDeskModel", name := "mark", desc := "()I" } : Jvm.MethodName)) ∈ bw := bw_of 487 (by decide +kernel) (by decide +kernel)
theorem bw_469 : (Jvm.Cond.instanceMethod ({ cls := "PlaceDeskModel", name := "mark", desc := "()I" } : Jvm.MethodName)) ∈ bw := bw_of 488 (by decide +kernel) (by decide +kernel)
theorem bw_470 : (Jvm.Cond.selects "PlaceDeskModel" ({ cls := "PlaceDeskModel", name := "mark", desc := "()I" } : Jvm.MethodName) ({ cls := "PlaceDeskModel", name := "mark", desc := "()I" } : Jvm.MethodName)) ∈ bw := bw_of 489 (by decide +kernel) (by decide +kernel)
theorem bw_471 : (Jvm.Cond.code ({ cls := "PlaceDeskModel", name := "mark", desc := "()I" } : Jvm.MethodName) prog_6_method_22_code (2 : Nat) (Option.some Jvm.ClassFile.FieldType.int)) ∈ bw := bw_of 490 (by decide +kernel) (by decide +kernel)
theorem bw_472 : (Jvm.Cond.methodLink "PlaceDeskLaw" (80 : Nat) ({ cls := "PlaceDeskModel", name := "back", desc := "(I)I" } : Jvm.MethodName)) ∈ bw := bw_of 491 (by decide +kernel) (by decide +kernel)
theorem bw_473 : (Jvm.Cond.instanceMethod ({ cls := "PlaceDeskModel", name := "back", desc := "(I)I" } : Jvm.MethodName)) ∈ bw := bw_of 492 (by decide +kernel) (by decide +kernel)
theorem bw_474 : (Jvm.Cond.selects "PlaceDeskModel" ({ cls := "PlaceDeskModel", name := "back", desc := "(I)I" } : Jvm.MethodName) ({ cls := "PlaceDeskModel", name := "back", desc := "(I)I" } : Jvm.MethodName)) ∈ bw := bw_of 493 (by decide +kernel) (by decide +kernel)
theorem bw_475 : (Jvm.Cond.code ({ cls := "PlaceDeskModel", name := "back", desc := "(I)I" } : Jvm.MethodName) prog_6_method_24_code (4 : Nat) (Option.some Jvm.ClassFile.FieldType.int)) ∈ bw := bw_of 494 (by decide +kernel) (by decide +kernel)
theorem bw_476 : (Jvm.Cond.methodLink "PlaceDeskModel" (108 : Nat) ({ cls := "PlaceDeskModel", name := "differ", desc := "(I)I" } : Jvm.MethodName)) ∈ bw := bw_of 495 (by decide +kernel) (by decide +kernel)
theorem bw_478 : (Jvm.Cond.instanceMethod ({ cls := "PlaceDeskModel", name := "differ", desc := "(I)I" } : Jvm.MethodName)) ∈ bw := bw_of 497 (by decide +kernel) (by decide +kernel)
theorem bw_479 : (Jvm.Cond.code ({ cls := "PlaceDeskModel", name := "differ", desc := "(I)I" } : Jvm.MethodName) prog_6_method_23_code (4 : Nat) (Option.some Jvm.ClassFile.FieldType.int)) ∈ bw := bw_of 498 (by decide +kernel) (by decide +kernel)
theorem bw_480 : (Jvm.Cond.methodLink "PlaceDeskLaw" (84 : Nat) ({ cls := "PlaceDeskModel", name := "changed", desc := "(I)I" } : Jvm.MethodName)) ∈ bw := bw_of 499 (by decide +kernel) (by decide +kernel)
theorem bw_481 : (Jvm.Cond.instanceMethod ({ cls := "PlaceDeskModel", name := "changed", desc := "(I)I" } : Jvm.MethodName)) ∈ bw := bw_of 500 (by decide +kernel) (by decide +kernel)
theorem bw_482 : (Jvm.Cond.selects "PlaceDeskModel" ({ cls := "PlaceDeskModel", name := "changed", desc := "(I)I" } : Jvm.MethodName) ({ cls := "PlaceDeskModel", name := "changed", desc := "(I)I" } : Jvm.MethodName)) ∈ bw := bw_of 501 (by decide +kernel) (by decide +kernel)
theorem bw_483 : (Jvm.Cond.code ({ cls := "PlaceDeskModel", name := "changed", desc := "(I)I" } : Jvm.MethodName) prog_6_method_25_code (2 : Nat) (Option.some Jvm.ClassFile.FieldType.int)) ∈ bw := bw_of 502 (by decide +kernel) (by decide +kernel)
theorem bw_484 : (Jvm.Cond.constantLong "PlaceDeskLaw" (52 : Nat) (4294967295 : Int64)) ∈ bw := bw_of 503 (by decide +kernel) (by decide +kernel)
theorem bs_0 : Cond.selects "PlaceDesk" ⟨"PlaceDesk", "hasRoomFor", "(I)Z"⟩ ⟨"PlaceDesk", "hasRoomFor", "(I)Z"⟩ ∈ bw := bw_of 0 (by decide +kernel) (by decide +kernel)
theorem bs_1 : Cond.selects "PlaceDesk" ⟨"PlaceDesk", "addThing", "(II)I"⟩ ⟨"PlaceDesk", "addThing", "(II)I"⟩ ∈ bw := bw_of 1 (by decide +kernel) (by decide +kernel)
theorem bs_2 : Cond.selects "PlaceDesk" ⟨"PlaceDesk", "findThing", "(I)LPlaceDesk$Thing;"⟩ ⟨"PlaceDesk", "findThing", "(I)LPlaceDesk$Thing;"⟩ ∈ bw := bw_of 2 (by decide +kernel) (by decide +kernel)
theorem bs_3 : Cond.selects "PlaceDesk" ⟨"PlaceDesk", "addSpot", "(IIIZ)I"⟩ ⟨"PlaceDesk", "addSpot", "(IIIZ)I"⟩ ∈ bw := bw_of 3 (by decide +kernel) (by decide +kernel)
theorem bs_4 : Cond.selects "PlaceDesk" ⟨"PlaceDesk", "findSpot", "(I)LPlaceDesk$Spot;"⟩ ⟨"PlaceDesk", "findSpot", "(I)LPlaceDesk$Spot;"⟩ ∈ bw := bw_of 4 (by decide +kernel) (by decide +kernel)
theorem bs_5 : Cond.selects "PlaceDesk" ⟨"PlaceDesk", "findSnapshot", "(I)LPlaceDesk$Snapshot;"⟩ ⟨"PlaceDesk", "findSnapshot", "(I)LPlaceDesk$Snapshot;"⟩ ∈ bw := bw_of 5 (by decide +kernel) (by decide +kernel)
theorem bs_6 : Cond.selects "java/lang/Throwable" ⟨"java/lang/Throwable", "fillInStackTrace", "(I)Ljava/lang/Throwable;"⟩ ⟨"java/lang/Throwable", "fillInStackTrace", "(I)Ljava/lang/Throwable;"⟩ ∈ bw := bw_of 6 (by decide +kernel) (by decide +kernel)
theorem bs_7 : Cond.selects "PlaceDesk" ⟨"PlaceDesk", "isValue", "(IJ)Z"⟩ ⟨"PlaceDesk", "isValue", "(IJ)Z"⟩ ∈ bw := bw_of 7 (by decide +kernel) (by decide +kernel)
theorem bs_8 : Cond.selects "PlaceDesk" ⟨"PlaceDesk", "perform", "(LPlaceDesk$Spot;IJJ)J"⟩ ⟨"PlaceDesk", "perform", "(LPlaceDesk$Spot;IJJ)J"⟩ ∈ bw := bw_of 8 (by decide +kernel) (by decide +kernel)
theorem bs_9 : Cond.selects "PlaceDesk" ⟨"PlaceDesk", "read", "(LPlaceDesk$Spot;)J"⟩ ⟨"PlaceDesk", "read", "(LPlaceDesk$Spot;)J"⟩ ∈ bw := bw_of 9 (by decide +kernel) (by decide +kernel)
theorem bs_10 : Cond.selects "PlaceDesk" ⟨"PlaceDesk", "write", "(LPlaceDesk$Spot;J)V"⟩ ⟨"PlaceDesk", "write", "(LPlaceDesk$Spot;J)V"⟩ ∈ bw := bw_of 10 (by decide +kernel) (by decide +kernel)
theorem bs_11 : Cond.selects "PlaceDeskModel" ⟨"PlaceDeskModel", "newObject", "(II)I"⟩ ⟨"PlaceDeskModel", "newObject", "(II)I"⟩ ∈ bw := bw_of 11 (by decide +kernel) (by decide +kernel)
theorem bs_12 : Cond.selects "PlaceDeskModel" ⟨"PlaceDeskModel", "isObject", "(I)Z"⟩ ⟨"PlaceDeskModel", "isObject", "(I)Z"⟩ ∈ bw := bw_of 12 (by decide +kernel) (by decide +kernel)
theorem bs_13 : Cond.selects "PlaceDeskModel" ⟨"PlaceDeskModel", "newPlace", "(IIIZ)I"⟩ ⟨"PlaceDeskModel", "newPlace", "(IIIZ)I"⟩ ∈ bw := bw_of 13 (by decide +kernel) (by decide +kernel)
theorem bs_14 : Cond.selects "PlaceDeskModel" ⟨"PlaceDeskModel", "isPlace", "(I)Z"⟩ ⟨"PlaceDeskModel", "isPlace", "(I)Z"⟩ ∈ bw := bw_of 14 (by decide +kernel) (by decide +kernel)
theorem bs_15 : Cond.selects "PlaceDeskModel" ⟨"PlaceDeskModel", "isValue", "(IJ)Z"⟩ ⟨"PlaceDeskModel", "isValue", "(IJ)Z"⟩ ∈ bw := bw_of 15 (by decide +kernel) (by decide +kernel)
theorem bs_16 : Cond.selects "PlaceDeskModel" ⟨"PlaceDeskModel", "get", "(I)J"⟩ ⟨"PlaceDeskModel", "get", "(I)J"⟩ ∈ bw := bw_of 16 (by decide +kernel) (by decide +kernel)
theorem bs_17 : Cond.selects "PlaceDeskModel" ⟨"PlaceDeskModel", "set", "(IJ)V"⟩ ⟨"PlaceDeskModel", "set", "(IJ)V"⟩ ∈ bw := bw_of 17 (by decide +kernel) (by decide +kernel)
theorem bs_18 : Cond.selects "PlaceDeskModel" ⟨"PlaceDeskModel", "differ", "(I)I"⟩ ⟨"PlaceDeskModel", "differ", "(I)I"⟩ ∈ bw := bw_of 18 (by decide +kernel) (by decide +kernel)
theorem nmD : ∀ a, a < 11 → ∀ b, b < 11 → a ≠ b → (FD a).2.1 ≠ (FD b).2.1 := by decide +kernel
theorem okD : ∀ k, k < 11 → parseFieldDescriptor (FD k).2.2.1 = some (tyD k) := by decide +kernel
theorem inD : ∀ w ∈ u_ws RD FD 11, w ∈ bw := List.forall_mem_cons.mpr ⟨bw_37, List.forall_mem_cons.mpr ⟨bw_39, List.forall_mem_cons.mpr ⟨bw_41, List.forall_mem_cons.mpr ⟨bw_43, List.forall_mem_cons.mpr ⟨bw_45, List.forall_mem_cons.mpr ⟨bw_47, List.forall_mem_cons.mpr ⟨bw_49, List.forall_mem_cons.mpr ⟨bw_51, List.forall_mem_cons.mpr ⟨bw_53, List.forall_mem_cons.mpr ⟨bw_55, List.forall_mem_cons.mpr ⟨bw_57, fun _ h => absurd h List.not_mem_nil⟩⟩⟩⟩⟩⟩⟩⟩⟩⟩⟩
theorem nmT : ∀ a, a < 3 → ∀ b, b < 3 → a ≠ b → (FT a).2.1 ≠ (FT b).2.1 := by decide +kernel
theorem okT : ∀ k, k < 3 → parseFieldDescriptor (FT k).2.2.1 = some (tyT k) := by decide +kernel
theorem inT : ∀ w ∈ u_ws RT FT 3, w ∈ bw := List.forall_mem_cons.mpr ⟨bw_89, List.forall_mem_cons.mpr ⟨bw_91, List.forall_mem_cons.mpr ⟨bw_93, fun _ h => absurd h List.not_mem_nil⟩⟩⟩
theorem nmS : ∀ a, a < 4 → ∀ b, b < 4 → a ≠ b → (FS a).2.1 ≠ (FS b).2.1 := by decide +kernel
theorem okS : ∀ k, k < 4 → parseFieldDescriptor (FS k).2.2.1 = some (tyS k) := by decide +kernel
theorem inS : ∀ w ∈ u_ws RS FS 4, w ∈ bw := List.forall_mem_cons.mpr ⟨bw_139, List.forall_mem_cons.mpr ⟨bw_141, List.forall_mem_cons.mpr ⟨bw_143, List.forall_mem_cons.mpr ⟨bw_145, fun _ h => absurd h List.not_mem_nil⟩⟩⟩⟩
theorem nmN : ∀ a, a < 2 → ∀ b, b < 2 → a ≠ b → (FN a).2.1 ≠ (FN b).2.1 := by decide +kernel
theorem okN : ∀ k, k < 2 → parseFieldDescriptor (FN k).2.2.1 = some (tyN k) := by decide +kernel
theorem inN : ∀ w ∈ u_ws RN FN 2, w ∈ bw := List.forall_mem_cons.mpr ⟨bw_186, List.forall_mem_cons.mpr ⟨bw_188, fun _ h => absurd h List.not_mem_nil⟩⟩
theorem nmM : ∀ a, a < 18 → ∀ b, b < 18 → a ≠ b → (FM a).2.1 ≠ (FM b).2.1 := by decide +kernel
theorem okM : ∀ k, k < 18 → parseFieldDescriptor (FM k).2.2.1 = some (tyM k) := by decide +kernel
theorem inM : ∀ w ∈ u_ws RM FM 18, w ∈ bw := List.forall_mem_cons.mpr ⟨bw_349, List.forall_mem_cons.mpr ⟨bw_351, List.forall_mem_cons.mpr ⟨bw_353, List.forall_mem_cons.mpr ⟨bw_355, List.forall_mem_cons.mpr ⟨bw_357, List.forall_mem_cons.mpr ⟨bw_359, List.forall_mem_cons.mpr ⟨bw_361, List.forall_mem_cons.mpr ⟨bw_363, List.forall_mem_cons.mpr ⟨bw_365, List.forall_mem_cons.mpr ⟨bw_367, List.forall_mem_cons.mpr ⟨bw_369, List.forall_mem_cons.mpr ⟨bw_371, List.forall_mem_cons.mpr ⟨bw_373, List.forall_mem_cons.mpr ⟨bw_375, List.forall_mem_cons.mpr ⟨bw_377, List.forall_mem_cons.mpr ⟨bw_379, List.forall_mem_cons.mpr ⟨bw_381, List.forall_mem_cons.mpr ⟨bw_383, fun _ h => absurd h List.not_mem_nil⟩⟩⟩⟩⟩⟩⟩⟩⟩⟩⟩⟩⟩⟩⟩⟩⟩⟩
