set_option maxRecDepth 20000 in
theorem tt0 : Cond.selects "LayeredBits$Picture" ⟨"LayeredBits$Picture", "weightAround", "(II)I"⟩ ⟨"LayeredBits$Picture", "weightAround", "(II)I"⟩ ∈ TT := TT_in 0 rfl rfl
set_option maxRecDepth 20000 in
theorem tt1 : Cond.selects "LayeredBits$Picture" ⟨"LayeredBits$Picture", "sumOfSquare", "(III)I"⟩ ⟨"LayeredBits$Picture", "sumOfSquare", "(III)I"⟩ ∈ TT := TT_in 1 rfl rfl
set_option maxRecDepth 20000 in
theorem tt2 : Cond.selects "java/lang/Throwable" ⟨"java/lang/Throwable", "fillInStackTrace", "(I)Ljava/lang/Throwable;"⟩ ⟨"java/lang/Throwable", "fillInStackTrace", "(I)Ljava/lang/Throwable;"⟩ ∈ TT := TT_in 2 rfl rfl
set_option maxRecDepth 20000 in
theorem tt3 : Cond.selects "LayeredBits$LayerStack" ⟨"LayeredBits$LayerStack", "isPlain", "(II)Z"⟩ ⟨"LayeredBits$LayerStack", "isPlain", "(II)Z"⟩ ∈ TT := TT_in 3 rfl rfl
set_option maxRecDepth 20000 in
theorem tt4 : Cond.selects "LayeredBits$LayerStack" ⟨"LayeredBits$LayerStack", "plainPixel", "(III)I"⟩ ⟨"LayeredBits$LayerStack", "plainPixel", "(III)I"⟩ ∈ TT := TT_in 4 rfl rfl
set_option maxRecDepth 20000 in
theorem tt5 : Cond.selects "LayeredBits$DecisionCoder" ⟨"LayeredBits$DecisionCoder", "adapt", "(IZ)V"⟩ ⟨"LayeredBits$DecisionCoder", "adapt", "(IZ)V"⟩ ∈ TT := TT_in 5 rfl rfl
set_option maxRecDepth 20000 in
theorem tt6 : Cond.selects "LayeredBits$DecisionCoder" ⟨"LayeredBits$DecisionCoder", "widen", "(LLayeredBits$CodeNumber;)V"⟩ ⟨"LayeredBits$DecisionCoder", "widen", "(LLayeredBits$CodeNumber;)V"⟩ ∈ TT := TT_in 6 rfl rfl
set_option maxRecDepth 20000 in
theorem tt7 : Cond.selects "LayeredBits$LayerStack" ⟨"LayeredBits$LayerStack", "paintPlain", "(II)V"⟩ ⟨"LayeredBits$LayerStack", "paintPlain", "(II)V"⟩ ∈ TT := TT_in 7 rfl rfl
set_option maxRecDepth 20000 in
theorem tt8 : Cond.selects "LayeredBits$LayerStack" ⟨"LayeredBits$LayerStack", "codePixels", "(IILLayeredBits$CodeNumber;)V"⟩ ⟨"LayeredBits$LayerStack", "codePixels", "(IILLayeredBits$CodeNumber;)V"⟩ ∈ TT := TT_in 8 rfl rfl
set_option maxRecDepth 20000 in
theorem tt9 : Cond.selects "LayeredBits$LayerStack" ⟨"LayeredBits$LayerStack", "lowestContext", "(II)I"⟩ ⟨"LayeredBits$LayerStack", "lowestContext", "(II)I"⟩ ∈ TT := TT_in 9 rfl rfl
set_option maxRecDepth 20000 in
theorem tt10 : Cond.selects "LayeredBits$LayerStack" ⟨"LayeredBits$LayerStack", "upperContext", "(III)I"⟩ ⟨"LayeredBits$LayerStack", "upperContext", "(III)I"⟩ ∈ TT := TT_in 10 rfl rfl
set_option maxRecDepth 20000 in
theorem tt11 : Cond.selects "LayeredBits$MadeNumber" ⟨"LayeredBits$MadeNumber", "byteCount", "()I"⟩ ⟨"LayeredBits$MadeNumber", "byteCount", "()I"⟩ ∈ TT := TT_in 11 rfl rfl
set_option maxRecDepth 20000 in
theorem tt12 : Cond.selects "LayeredBits$MadeNumber" ⟨"LayeredBits$MadeNumber", "byteOfDigits", "(I)I"⟩ ⟨"LayeredBits$MadeNumber", "byteOfDigits", "(I)I"⟩ ∈ TT := TT_in 12 rfl rfl
set_option maxRecDepth 20000 in
theorem tt13 : Cond.selects "LayeredBits$LayeredFile" ⟨"LayeredBits$LayeredFile", "passHead", "()Z"⟩ ⟨"LayeredBits$LayeredFile", "passHead", "()Z"⟩ ∈ TT := TT_in 13 rfl rfl
set_option maxRecDepth 20000 in
theorem tt14 : Cond.selects "LayeredBits$LayeredFile" ⟨"LayeredBits$LayeredFile", "passByte", "(II)Z"⟩ ⟨"LayeredBits$LayeredFile", "passByte", "(II)Z"⟩ ∈ TT := TT_in 14 rfl rfl
set_option maxRecDepth 20000 in
theorem tt15 : Cond.selects "LayeredBits$LayeredFile" ⟨"LayeredBits$LayeredFile", "passLayer", "(I)Z"⟩ ⟨"LayeredBits$LayeredFile", "passLayer", "(I)Z"⟩ ∈ TT := TT_in 15 rfl rfl
set_option maxRecDepth 20000 in
theorem tt16 : Cond.selects "LayeredBits$LayeredFile" ⟨"LayeredBits$LayeredFile", "passAllRemarks", "()Z"⟩ ⟨"LayeredBits$LayeredFile", "passAllRemarks", "()Z"⟩ ∈ TT := TT_in 16 rfl rfl
set_option maxRecDepth 20000 in
theorem tt17 : Cond.selects "LayeredBits$LayeredFile" ⟨"LayeredBits$LayeredFile", "remarksAreNext", "()Z"⟩ ⟨"LayeredBits$LayeredFile", "remarksAreNext", "()Z"⟩ ∈ TT := TT_in 17 rfl rfl
set_option maxRecDepth 20000 in
theorem tt18 : Cond.selects "LayeredBitsModel" ⟨"LayeredBitsModel", "isPlace", "(II)Z"⟩ ⟨"LayeredBitsModel", "isPlace", "(II)Z"⟩ ∈ TT := TT_in 18 rfl rfl
set_option maxRecDepth 20000 in
theorem tt19 : Cond.selects "LayeredBitsModel" ⟨"LayeredBitsModel", "takePicture", "(I)V"⟩ ⟨"LayeredBitsModel", "takePicture", "(I)V"⟩ ∈ TT := TT_in 19 rfl rfl
set_option maxRecDepth 20000 in
theorem tt20 : Cond.selects "LayeredBitsModel" ⟨"LayeredBitsModel", "become", "(III)V"⟩ ⟨"LayeredBitsModel", "become", "(III)V"⟩ ∈ TT := TT_in 20 rfl rfl
set_option maxRecDepth 20000 in
theorem tt21 : Cond.selects "LayeredBitsModel" ⟨"LayeredBitsModel", "reduce", "(I)V"⟩ ⟨"LayeredBitsModel", "reduce", "(I)V"⟩ ∈ TT := TT_in 21 rfl rfl
set_option maxRecDepth 20000 in
theorem tt22 : Cond.selects "LayeredBitsModel" ⟨"LayeredBitsModel", "reduced", "(IIII)I"⟩ ⟨"LayeredBitsModel", "reduced", "(IIII)I"⟩ ∈ TT := TT_in 22 rfl rfl
set_option maxRecDepth 20000 in
theorem tt23 : Cond.selects "LayeredBitsModel" ⟨"LayeredBitsModel", "at", "(III)I"⟩ ⟨"LayeredBitsModel", "at", "(III)I"⟩ ∈ TT := TT_in 23 rfl rfl
set_option maxRecDepth 20000 in
theorem tt24 : Cond.selects "LayeredBitsModel" ⟨"LayeredBitsModel", "put", "(I)V"⟩ ⟨"LayeredBitsModel", "put", "(I)V"⟩ ∈ TT := TT_in 24 rfl rfl
set_option maxRecDepth 20000 in
theorem tt25 : Cond.selects "LayeredBitsModel" ⟨"LayeredBitsModel", "codeLayer", "(IZ)V"⟩ ⟨"LayeredBitsModel", "codeLayer", "(IZ)V"⟩ ∈ TT := TT_in 25 rfl rfl
set_option maxRecDepth 20000 in
theorem tt26 : Cond.selects "LayeredBitsModel" ⟨"LayeredBitsModel", "begin", "(Z)V"⟩ ⟨"LayeredBitsModel", "begin", "(Z)V"⟩ ∈ TT := TT_in 26 rfl rfl
set_option maxRecDepth 20000 in
theorem tt27 : Cond.selects "LayeredBitsModel" ⟨"LayeredBitsModel", "nextDigit", "()I"⟩ ⟨"LayeredBitsModel", "nextDigit", "()I"⟩ ∈ TT := TT_in 27 rfl rfl
set_option maxRecDepth 20000 in
theorem tt28 : Cond.selects "LayeredBitsModel" ⟨"LayeredBitsModel", "isPlain", "(II)Z"⟩ ⟨"LayeredBitsModel", "isPlain", "(II)Z"⟩ ∈ TT := TT_in 28 rfl rfl
set_option maxRecDepth 20000 in
theorem tt29 : Cond.selects "LayeredBitsModel" ⟨"LayeredBitsModel", "plainAt", "(III)I"⟩ ⟨"LayeredBitsModel", "plainAt", "(III)I"⟩ ∈ TT := TT_in 29 rfl rfl
set_option maxRecDepth 20000 in
theorem tt30 : Cond.selects "LayeredBitsModel" ⟨"LayeredBitsModel", "decide", "(II)I"⟩ ⟨"LayeredBitsModel", "decide", "(II)I"⟩ ∈ TT := TT_in 30 rfl rfl
set_option maxRecDepth 20000 in
theorem tt31 : Cond.selects "LayeredBitsModel" ⟨"LayeredBitsModel", "pass", "(I)V"⟩ ⟨"LayeredBitsModel", "pass", "(I)V"⟩ ∈ TT := TT_in 31 rfl rfl
set_option maxRecDepth 20000 in
theorem tt32 : Cond.selects "LayeredBitsModel" ⟨"LayeredBitsModel", "grow", "()V"⟩ ⟨"LayeredBitsModel", "grow", "()V"⟩ ∈ TT := TT_in 32 rfl rfl
set_option maxRecDepth 20000 in
theorem tt33 : Cond.selects "LayeredBitsModel" ⟨"LayeredBitsModel", "twice", "()V"⟩ ⟨"LayeredBitsModel", "twice", "()V"⟩ ∈ TT := TT_in 33 rfl rfl
set_option maxRecDepth 20000 in
theorem tt34 : Cond.selects "LayeredBitsModel" ⟨"LayeredBitsModel", "contextOf", "(III)I"⟩ ⟨"LayeredBitsModel", "contextOf", "(III)I"⟩ ∈ TT := TT_in 34 rfl rfl
set_option maxRecDepth 20000 in
theorem tt35 : Cond.selects "LayeredBitsModel" ⟨"LayeredBitsModel", "putLayer", "()V"⟩ ⟨"LayeredBitsModel", "putLayer", "()V"⟩ ∈ TT := TT_in 35 rfl rfl
set_option maxRecDepth 20000 in
theorem tt36 : Cond.selects "LayeredBitsModel" ⟨"LayeredBitsModel", "byteOf", "(I)I"⟩ ⟨"LayeredBitsModel", "byteOf", "(I)I"⟩ ∈ TT := TT_in 36 rfl rfl
set_option maxRecDepth 20000 in
theorem tt37 : Cond.selects "LayeredBitsModel" ⟨"LayeredBitsModel", "note", "()V"⟩ ⟨"LayeredBitsModel", "note", "()V"⟩ ∈ TT := TT_in 37 rfl rfl
set_option maxRecDepth 20000 in
theorem tt38 : Cond.selects "LayeredBitsModel" ⟨"LayeredBitsModel", "look", "()I"⟩ ⟨"LayeredBitsModel", "look", "()I"⟩ ∈ TT := TT_in 38 rfl rfl
set_option maxRecDepth 20000 in
theorem tt39 : Cond.selects "LayeredBitsModel" ⟨"LayeredBitsModel", "byteIn", "(I)I"⟩ ⟨"LayeredBitsModel", "byteIn", "(I)I"⟩ ∈ TT := TT_in 39 rfl rfl
set_option maxRecDepth 20000 in
theorem tt40 : Cond.selects "LayeredBitsModel" ⟨"LayeredBitsModel", "behindRemarks", "(I)I"⟩ ⟨"LayeredBitsModel", "behindRemarks", "(I)I"⟩ ∈ TT := TT_in 40 rfl rfl
set_option maxRecDepth 20000 in
theorem tt41 : Cond.selects "LayeredBitsModel" ⟨"LayeredBitsModel", "behindLayer", "(I)I"⟩ ⟨"LayeredBitsModel", "behindLayer", "(I)I"⟩ ∈ TT := TT_in 41 rfl rfl
set_option maxRecDepth 20000 in
theorem tt42 : Cond.selects "LayeredBitsModel" ⟨"LayeredBitsModel", "sideOf", "(II)I"⟩ ⟨"LayeredBitsModel", "sideOf", "(II)I"⟩ ∈ TT := TT_in 42 rfl rfl
set_option maxRecDepth 20000 in
theorem tt43 : Cond.selects "LayeredBitsModel" ⟨"LayeredBitsModel", "collect", "(I)V"⟩ ⟨"LayeredBitsModel", "collect", "(I)V"⟩ ∈ TT := TT_in 43 rfl rfl
set_option maxRecDepth 20000 in
theorem tt44 : Cond.initialized "LayeredBitsLaw" ∈ TT := TT_in 44 rfl rfl
set_option maxRecDepth 20000 in
theorem tt45 : Cond.initialized "LayeredBits" ∈ TT := TT_in 45 rfl rfl
set_option maxRecDepth 20000 in
theorem tt46 : Cond.initialized "LayeredBits$Picture" ∈ TT := TT_in 46 rfl rfl
set_option maxRecDepth 20000 in
theorem tt47 : Cond.initialized "LayeredBits$LayeredFile" ∈ TT := TT_in 47 rfl rfl
set_option maxRecDepth 20000 in
theorem tt48 : Cond.initialized "LayeredBits$LayerStack" ∈ TT := TT_in 48 rfl rfl
set_option maxRecDepth 20000 in
theorem tt49 : Cond.initialized "LayeredBits$DecisionCoder" ∈ TT := TT_in 49 rfl rfl
set_option maxRecDepth 20000 in
theorem tt50 : Cond.initialized "LayeredBits$CodeNumber" ∈ TT := TT_in 50 rfl rfl
set_option maxRecDepth 20000 in
theorem tt51 : Cond.initialized "LayeredBits$MadeNumber" ∈ TT := TT_in 51 rfl rfl
set_option maxRecDepth 20000 in
theorem tt52 : Cond.initialized "LayeredBits$TakenNumber" ∈ TT := TT_in 52 rfl rfl
set_option maxRecDepth 20000 in
theorem tt53 : Cond.initialized "LayeredBitsModel" ∈ TT := TT_in 53 rfl rfl
set_option maxRecDepth 20000 in
theorem tt54 : Cond.initialized "java/lang/Throwable" ∈ TT := TT_in 54 rfl rfl
set_option maxRecDepth 20000 in
theorem tt55 : Cond.initialized "java/lang/Exception" ∈ TT := TT_in 55 rfl rfl
set_option maxRecDepth 20000 in
theorem tt56 : Cond.initialized "java/lang/RuntimeException" ∈ TT := TT_in 56 rfl rfl
set_option maxRecDepth 20000 in
theorem tt57 : Cond.initialized "java/lang/IllegalArgumentException" ∈ TT := TT_in 57 rfl rfl
set_option maxRecDepth 20000 in
theorem tt58 : Cond.initialized "java/util/Arrays" ∈ TT := TT_in 58 rfl rfl
set_option maxRecDepth 20000 in
theorem tt59 : Cond.initialized "java/lang/IndexOutOfBoundsException" ∈ TT := TT_in 59 rfl rfl
set_option maxRecDepth 20000 in
theorem tt60 : Cond.initialized "java/lang/System" ∈ TT := TT_in 60 rfl rfl
set_option maxRecDepth 20000 in
theorem tt61 : Cond.initialized "java/lang/Math" ∈ TT := TT_in 61 rfl rfl
set_option maxRecDepth 20000 in
theorem tt62 : Cond.initialized "java/lang/IllegalStateException" ∈ TT := TT_in 62 rfl rfl
set_option maxRecDepth 20000 in
theorem tt63 : Cond.classLink "LayeredBitsLaw" 8 "LayeredBits" ∈ TT := TT_in 63 rfl rfl
set_option maxRecDepth 20000 in
theorem tt64 : Cond.instantiable "LayeredBits" 6 ∈ TT := TT_in 64 rfl rfl
set_option maxRecDepth 20000 in
theorem tt65 : Cond.methodLink "LayeredBitsLaw" 50 ⟨"LayeredBits", "<init>", "()V"⟩ ∈ TT := TT_in 65 rfl rfl
set_option maxRecDepth 20000 in
theorem tt66 : Cond.instanceMethod ⟨"LayeredBits", "<init>", "()V"⟩ ∈ TT := TT_in 66 rfl rfl
set_option maxRecDepth 20000 in
theorem tt67 : Cond.code ⟨"LayeredBits", "<init>", "()V"⟩ prog_1_method_1_code 1 none ∈ TT := TT_in 67 rfl rfl
set_option maxRecDepth 20000 in
theorem tt68 : Cond.methodLink "LayeredBits" 3 ⟨"java/lang/Object", "<init>", "()V"⟩ ∈ TT := TT_in 68 rfl rfl
set_option maxRecDepth 20000 in
theorem tt69 : Cond.instanceMethod ⟨"java/lang/Object", "<init>", "()V"⟩ ∈ TT := TT_in 69 rfl rfl
set_option maxRecDepth 20000 in
theorem tt70 : Cond.code ⟨"java/lang/Object", "<init>", "()V"⟩ object_method_1_code 1 none ∈ TT := TT_in 70 rfl rfl
set_option maxRecDepth 20000 in
theorem tt71 : Cond.classLink "LayeredBits" 9 "LayeredBits$Picture" ∈ TT := TT_in 71 rfl rfl
set_option maxRecDepth 20000 in
theorem tt72 : Cond.instantiable "LayeredBits$Picture" 3 ∈ TT := TT_in 72 rfl rfl
set_option maxRecDepth 20000 in
theorem nn73 : Cond.methodLinkNest "LayeredBits" 11 ⟨"LayeredBits$Picture", "<init>", "()V"⟩ "LayeredBits" ∈ NW := NW_in 73 rfl rfl
set_option maxRecDepth 20000 in
theorem tt74 : Cond.instanceMethod ⟨"LayeredBits$Picture", "<init>", "()V"⟩ ∈ TT := TT_in 74 rfl rfl
set_option maxRecDepth 20000 in
theorem tt75 : Cond.code ⟨"LayeredBits$Picture", "<init>", "()V"⟩ prog_7_method_1_code 1 none ∈ TT := TT_in 75 rfl rfl
set_option maxRecDepth 20000 in
theorem tt76 : Cond.methodLink "LayeredBits$Picture" 3 ⟨"java/lang/Object", "<init>", "()V"⟩ ∈ TT := TT_in 76 rfl rfl
set_option maxRecDepth 20000 in
theorem tt77 : Cond.fieldLink "LayeredBits$Picture" 9 "LayeredBits$Picture" "pixels" "[I" ∈ TT := TT_in 77 rfl rfl
set_option maxRecDepth 20000 in
theorem tt78 : Cond.fieldLink "LayeredBits$Picture" 15 "LayeredBits$Picture" "wide" "I" ∈ TT := TT_in 78 rfl rfl
set_option maxRecDepth 20000 in
theorem nn79 : Cond.fieldLinkNest "LayeredBits" 70 "LayeredBits$Picture" "wide" "I" "LayeredBits" ∈ NW := NW_in 79 rfl rfl
set_option maxRecDepth 20000 in
theorem nn80 : Cond.fieldLinkNest "LayeredBits$LayerStack" 65 "LayeredBits$Picture" "wide" "I" "LayeredBits" ∈ NW := NW_in 80 rfl rfl
set_option maxRecDepth 20000 in
theorem tt81 : Cond.fieldLink "LayeredBits$Picture" 19 "LayeredBits$Picture" "high" "I" ∈ TT := TT_in 81 rfl rfl
set_option maxRecDepth 20000 in
theorem nn82 : Cond.fieldLinkNest "LayeredBits$LayerStack" 47 "LayeredBits$Picture" "high" "I" "LayeredBits" ∈ NW := NW_in 82 rfl rfl
set_option maxRecDepth 20000 in
theorem nn83 : Cond.fieldLinkNest "LayeredBits" 74 "LayeredBits$Picture" "high" "I" "LayeredBits" ∈ NW := NW_in 83 rfl rfl
set_option maxRecDepth 20000 in
theorem tt91 : Cond.arrayClass FieldType.int ∈ TT := TT_in 91 rfl rfl
set_option maxRecDepth 20000 in
theorem tt92 : Cond.classLink "LayeredBits" 16 "LayeredBits$LayeredFile" ∈ TT := TT_in 92 rfl rfl
set_option maxRecDepth 20000 in
theorem tt93 : Cond.instantiable "LayeredBits$LayeredFile" 8 ∈ TT := TT_in 93 rfl rfl
set_option maxRecDepth 20000 in
theorem nn94 : Cond.methodLinkNest "LayeredBits" 18 ⟨"LayeredBits$LayeredFile", "<init>", "()V"⟩ "LayeredBits" ∈ NW := NW_in 94 rfl rfl
set_option maxRecDepth 20000 in
theorem tt95 : Cond.instanceMethod ⟨"LayeredBits$LayeredFile", "<init>", "()V"⟩ ∈ TT := TT_in 95 rfl rfl
set_option maxRecDepth 20000 in
theorem tt96 : Cond.code ⟨"LayeredBits$LayeredFile", "<init>", "()V"⟩ prog_5_method_1_code 1 none ∈ TT := TT_in 96 rfl rfl
set_option maxRecDepth 20000 in
theorem tt97 : Cond.methodLink "LayeredBits$LayeredFile" 3 ⟨"java/lang/Object", "<init>", "()V"⟩ ∈ TT := TT_in 97 rfl rfl
set_option maxRecDepth 20000 in
theorem tt98 : Cond.fieldLink "LayeredBits$LayeredFile" 9 "LayeredBits$LayeredFile" "bytes" "[I" ∈ TT := TT_in 98 rfl rfl
set_option maxRecDepth 20000 in
theorem tt99 : Cond.fieldLink "LayeredBits$LayeredFile" 15 "LayeredBits$LayeredFile" "starts" "[I" ∈ TT := TT_in 99 rfl rfl
set_option maxRecDepth 20000 in
theorem nn100 : Cond.fieldLinkNest "LayeredBits$TakenNumber" 30 "LayeredBits$LayeredFile" "starts" "[I" "LayeredBits" ∈ NW := NW_in 100 rfl rfl
set_option maxRecDepth 20000 in
theorem tt101 : Cond.fieldLink "LayeredBits$LayeredFile" 18 "LayeredBits$LayeredFile" "ends" "[I" ∈ TT := TT_in 101 rfl rfl
set_option maxRecDepth 20000 in
theorem nn102 : Cond.fieldLinkNest "LayeredBits$TakenNumber" 25 "LayeredBits$LayeredFile" "ends" "[I" "LayeredBits" ∈ NW := NW_in 102 rfl rfl
set_option maxRecDepth 20000 in
theorem tt103 : Cond.fieldLink "LayeredBits$LayeredFile" 21 "LayeredBits$LayeredFile" "length" "I" ∈ TT := TT_in 103 rfl rfl
set_option maxRecDepth 20000 in
theorem nn104 : Cond.fieldLinkNest "LayeredBits" 107 "LayeredBits$LayeredFile" "length" "I" "LayeredBits" ∈ NW := NW_in 104 rfl rfl
set_option maxRecDepth 20000 in
theorem tt105 : Cond.fieldLink "LayeredBits$LayeredFile" 25 "LayeredBits$LayeredFile" "wide" "I" ∈ TT := TT_in 105 rfl rfl
set_option maxRecDepth 20000 in
theorem nn106 : Cond.fieldLinkNest "LayeredBits" 120 "LayeredBits$LayeredFile" "wide" "I" "LayeredBits" ∈ NW := NW_in 106 rfl rfl
set_option maxRecDepth 20000 in
theorem tt107 : Cond.fieldLink "LayeredBits$LayeredFile" 28 "LayeredBits$LayeredFile" "high" "I" ∈ TT := TT_in 107 rfl rfl
set_option maxRecDepth 20000 in
theorem nn108 : Cond.fieldLinkNest "LayeredBits" 121 "LayeredBits$LayeredFile" "high" "I" "LayeredBits" ∈ NW := NW_in 108 rfl rfl
set_option maxRecDepth 20000 in
theorem tt109 : Cond.fieldLink "LayeredBits$LayeredFile" 31 "LayeredBits$LayeredFile" "layerCount" "I" ∈ TT := TT_in 109 rfl rfl
set_option maxRecDepth 20000 in
theorem nn110 : Cond.fieldLinkNest "LayeredBits" 114 "LayeredBits$LayeredFile" "layerCount" "I" "LayeredBits" ∈ NW := NW_in 110 rfl rfl
set_option maxRecDepth 20000 in
theorem tt111 : Cond.fieldLink "LayeredBits$LayeredFile" 34 "LayeredBits$LayeredFile" "place" "I" ∈ TT := TT_in 111 rfl rfl
set_option maxRecDepth 20000 in
theorem tt129 : Cond.classLink "LayeredBits" 23 "LayeredBits$LayerStack" ∈ TT := TT_in 129 rfl rfl
set_option maxRecDepth 20000 in
theorem tt130 : Cond.instantiable "LayeredBits$LayerStack" 3 ∈ TT := TT_in 130 rfl rfl
set_option maxRecDepth 20000 in
theorem nn131 : Cond.methodLinkNest "LayeredBits" 25 ⟨"LayeredBits$LayerStack", "<init>", "()V"⟩ "LayeredBits" ∈ NW := NW_in 131 rfl rfl
set_option maxRecDepth 20000 in
theorem tt132 : Cond.instanceMethod ⟨"LayeredBits$LayerStack", "<init>", "()V"⟩ ∈ TT := TT_in 132 rfl rfl
set_option maxRecDepth 20000 in
theorem tt133 : Cond.code ⟨"LayeredBits$LayerStack", "<init>", "()V"⟩ prog_4_method_1_code 1 none ∈ TT := TT_in 133 rfl rfl
set_option maxRecDepth 20000 in
theorem tt134 : Cond.methodLink "LayeredBits$LayerStack" 3 ⟨"java/lang/Object", "<init>", "()V"⟩ ∈ TT := TT_in 134 rfl rfl
set_option maxRecDepth 20000 in
theorem tt135 : Cond.classLink "LayeredBits$LayerStack" 9 "LayeredBits$Picture" ∈ TT := TT_in 135 rfl rfl
set_option maxRecDepth 20000 in
theorem nn137 : Cond.methodLinkNest "LayeredBits$LayerStack" 11 ⟨"LayeredBits$Picture", "<init>", "()V"⟩ "LayeredBits" ∈ NW := NW_in 137 rfl rfl
set_option maxRecDepth 20000 in
theorem tt138 : Cond.classLink "LayeredBits$LayerStack" 18 "LayeredBits$DecisionCoder" ∈ TT := TT_in 138 rfl rfl
set_option maxRecDepth 20000 in
theorem tt139 : Cond.instantiable "LayeredBits$DecisionCoder" 5 ∈ TT := TT_in 139 rfl rfl
set_option maxRecDepth 20000 in
theorem nn140 : Cond.methodLinkNest "LayeredBits$LayerStack" 20 ⟨"LayeredBits$DecisionCoder", "<init>", "()V"⟩ "LayeredBits" ∈ NW := NW_in 140 rfl rfl
set_option maxRecDepth 20000 in
theorem tt141 : Cond.instanceMethod ⟨"LayeredBits$DecisionCoder", "<init>", "()V"⟩ ∈ TT := TT_in 141 rfl rfl
set_option maxRecDepth 20000 in
theorem tt142 : Cond.code ⟨"LayeredBits$DecisionCoder", "<init>", "()V"⟩ prog_3_method_1_code 1 none ∈ TT := TT_in 142 rfl rfl
set_option maxRecDepth 20000 in
theorem tt143 : Cond.methodLink "LayeredBits$DecisionCoder" 3 ⟨"java/lang/Object", "<init>", "()V"⟩ ∈ TT := TT_in 143 rfl rfl
set_option maxRecDepth 20000 in
theorem tt144 : Cond.constant "LayeredBits$DecisionCoder" 18 (65536 : Int32) ∈ TT := TT_in 144 rfl rfl
set_option maxRecDepth 20000 in
theorem tt145 : Cond.fieldLink "LayeredBits$DecisionCoder" 9 "LayeredBits$DecisionCoder" "states" "[I" ∈ TT := TT_in 145 rfl rfl
set_option maxRecDepth 20000 in
theorem tt146 : Cond.fieldLink "LayeredBits$DecisionCoder" 15 "LayeredBits$DecisionCoder" "favourites" "[I" ∈ TT := TT_in 146 rfl rfl
set_option maxRecDepth 20000 in
theorem tt147 : Cond.fieldLink "LayeredBits$DecisionCoder" 19 "LayeredBits$DecisionCoder" "span" "I" ∈ TT := TT_in 147 rfl rfl
set_option maxRecDepth 20000 in
theorem tt148 : Cond.fieldLink "LayeredBits$DecisionCoder" 23 "LayeredBits$DecisionCoder" "decisions" "I" ∈ TT := TT_in 148 rfl rfl
set_option maxRecDepth 20000 in
theorem nn149 : Cond.fieldLinkNest "LayeredBits" 131 "LayeredBits$DecisionCoder" "decisions" "I" "LayeredBits" ∈ NW := NW_in 149 rfl rfl
set_option maxRecDepth 20000 in
theorem tt150 : Cond.fieldLink "LayeredBits$DecisionCoder" 26 "LayeredBits$DecisionCoder" "doublings" "I" ∈ TT := TT_in 150 rfl rfl
set_option maxRecDepth 20000 in
theorem nn151 : Cond.fieldLinkNest "LayeredBits" 139 "LayeredBits$DecisionCoder" "doublings" "I" "LayeredBits" ∈ NW := NW_in 151 rfl rfl
set_option maxRecDepth 20000 in
theorem tt163 : Cond.fieldLink "LayeredBits$LayerStack" 12 "LayeredBits$LayerStack" "layers" "[LLayeredBits$Picture;" ∈ TT := TT_in 163 rfl rfl
set_option maxRecDepth 20000 in
theorem nn164 : Cond.fieldLinkNest "LayeredBits" 81 "LayeredBits$LayerStack" "layers" "[LLayeredBits$Picture;" "LayeredBits" ∈ NW := NW_in 164 rfl rfl
set_option maxRecDepth 20000 in
theorem tt165 : Cond.fieldLink "LayeredBits$LayerStack" 21 "LayeredBits$LayerStack" "coder" "LLayeredBits$DecisionCoder;" ∈ TT := TT_in 165 rfl rfl
set_option maxRecDepth 20000 in
theorem nn166 : Cond.fieldLinkNest "LayeredBits" 127 "LayeredBits$LayerStack" "coder" "LLayeredBits$DecisionCoder;" "LayeredBits" ∈ NW := NW_in 166 rfl rfl
set_option maxRecDepth 20000 in
theorem tt167 : Cond.fieldLink "LayeredBits$LayerStack" 25 "LayeredBits$LayerStack" "plainRows" "I" ∈ TT := TT_in 167 rfl rfl
set_option maxRecDepth 20000 in
theorem nn168 : Cond.fieldLinkNest "LayeredBits" 136 "LayeredBits$LayerStack" "plainRows" "I" "LayeredBits" ∈ NW := NW_in 168 rfl rfl
set_option maxRecDepth 20000 in
theorem tt176 : Cond.classLink "LayeredBits" 30 "LayeredBits$MadeNumber" ∈ TT := TT_in 176 rfl rfl
set_option maxRecDepth 20000 in
theorem tt177 : Cond.instantiable "LayeredBits$MadeNumber" 2 ∈ TT := TT_in 177 rfl rfl
set_option maxRecDepth 20000 in
theorem nn178 : Cond.methodLinkNest "LayeredBits" 32 ⟨"LayeredBits$MadeNumber", "<init>", "()V"⟩ "LayeredBits" ∈ NW := NW_in 178 rfl rfl
set_option maxRecDepth 20000 in
theorem tt179 : Cond.instanceMethod ⟨"LayeredBits$MadeNumber", "<init>", "()V"⟩ ∈ TT := TT_in 179 rfl rfl
set_option maxRecDepth 20000 in
theorem tt180 : Cond.code ⟨"LayeredBits$MadeNumber", "<init>", "()V"⟩ prog_6_method_1_code 1 none ∈ TT := TT_in 180 rfl rfl
set_option maxRecDepth 20000 in
theorem nn181 : Cond.methodLinkNest "LayeredBits$MadeNumber" 3 ⟨"LayeredBits$CodeNumber", "<init>", "()V"⟩ "LayeredBits" ∈ NW := NW_in 181 rfl rfl
set_option maxRecDepth 20000 in
theorem tt182 : Cond.instanceMethod ⟨"LayeredBits$CodeNumber", "<init>", "()V"⟩ ∈ TT := TT_in 182 rfl rfl
set_option maxRecDepth 20000 in
theorem tt183 : Cond.code ⟨"LayeredBits$CodeNumber", "<init>", "()V"⟩ prog_2_method_1_code 1 none ∈ TT := TT_in 183 rfl rfl
set_option maxRecDepth 20000 in
theorem tt184 : Cond.methodLink "LayeredBits$CodeNumber" 1 ⟨"java/lang/Object", "<init>", "()V"⟩ ∈ TT := TT_in 184 rfl rfl
set_option maxRecDepth 20000 in
theorem tt185 : Cond.fieldLink "LayeredBits$MadeNumber" 9 "LayeredBits$MadeNumber" "digits" "[I" ∈ TT := TT_in 185 rfl rfl
set_option maxRecDepth 20000 in
theorem tt186 : Cond.fieldLink "LayeredBits$MadeNumber" 15 "LayeredBits$MadeNumber" "digitCount" "I" ∈ TT := TT_in 186 rfl rfl
set_option maxRecDepth 20000 in
theorem tt192 : Cond.classLink "LayeredBits" 37 "LayeredBits$TakenNumber" ∈ TT := TT_in 192 rfl rfl
set_option maxRecDepth 20000 in
theorem tt193 : Cond.instantiable "LayeredBits$TakenNumber" 4 ∈ TT := TT_in 193 rfl rfl
set_option maxRecDepth 20000 in
theorem nn194 : Cond.methodLinkNest "LayeredBits" 39 ⟨"LayeredBits$TakenNumber", "<init>", "()V"⟩ "LayeredBits" ∈ NW := NW_in 194 rfl rfl
set_option maxRecDepth 20000 in
theorem tt195 : Cond.instanceMethod ⟨"LayeredBits$TakenNumber", "<init>", "()V"⟩ ∈ TT := TT_in 195 rfl rfl
set_option maxRecDepth 20000 in
theorem tt196 : Cond.code ⟨"LayeredBits$TakenNumber", "<init>", "()V"⟩ prog_8_method_1_code 1 none ∈ TT := TT_in 196 rfl rfl
set_option maxRecDepth 20000 in
theorem nn197 : Cond.methodLinkNest "LayeredBits$TakenNumber" 3 ⟨"LayeredBits$CodeNumber", "<init>", "()V"⟩ "LayeredBits" ∈ NW := NW_in 197 rfl rfl
set_option maxRecDepth 20000 in
theorem tt198 : Cond.fieldLink "LayeredBits$TakenNumber" 9 "LayeredBits$TakenNumber" "bytes" "[I" ∈ TT := TT_in 198 rfl rfl
set_option maxRecDepth 20000 in
theorem tt199 : Cond.fieldLink "LayeredBits$TakenNumber" 15 "LayeredBits$TakenNumber" "byteCount" "I" ∈ TT := TT_in 199 rfl rfl
set_option maxRecDepth 20000 in
theorem tt200 : Cond.fieldLink "LayeredBits$TakenNumber" 19 "LayeredBits$TakenNumber" "nextDigit" "I" ∈ TT := TT_in 200 rfl rfl
set_option maxRecDepth 20000 in
theorem tt201 : Cond.fieldLink "LayeredBits$TakenNumber" 22 "LayeredBits$TakenNumber" "rest" "I" ∈ TT := TT_in 201 rfl rfl
set_option maxRecDepth 20000 in
theorem tt211 : Cond.fieldLink "LayeredBits" 12 "LayeredBits" "picture" "LLayeredBits$Picture;" ∈ TT := TT_in 211 rfl rfl
set_option maxRecDepth 20000 in
theorem tt212 : Cond.fieldLink "LayeredBits" 19 "LayeredBits" "file" "LLayeredBits$LayeredFile;" ∈ TT := TT_in 212 rfl rfl
set_option maxRecDepth 20000 in
theorem tt213 : Cond.fieldLink "LayeredBits" 26 "LayeredBits" "stack" "LLayeredBits$LayerStack;" ∈ TT := TT_in 213 rfl rfl
set_option maxRecDepth 20000 in
theorem tt214 : Cond.fieldLink "LayeredBits" 33 "LayeredBits" "made" "LLayeredBits$MadeNumber;" ∈ TT := TT_in 214 rfl rfl
set_option maxRecDepth 20000 in
theorem tt215 : Cond.fieldLink "LayeredBits" 40 "LayeredBits" "taken" "LLayeredBits$TakenNumber;" ∈ TT := TT_in 215 rfl rfl
set_option maxRecDepth 20000 in
theorem tt216 : Cond.fieldLink "LayeredBits" 44 "LayeredBits" "anyLayerCoded" "Z" ∈ TT := TT_in 216 rfl rfl
set_option maxRecDepth 20000 in
theorem tt230 : Cond.methodLink "LayeredBitsLaw" 71 ⟨"LayeredBits", "get", "(II)I"⟩ ∈ TT := TT_in 230 rfl rfl
set_option maxRecDepth 20000 in
theorem tt231 : Cond.instanceMethod ⟨"LayeredBits", "get", "(II)I"⟩ ∈ TT := TT_in 231 rfl rfl
set_option maxRecDepth 20000 in
theorem tt232 : Cond.selects "LayeredBits" ⟨"LayeredBits", "get", "(II)I"⟩ ⟨"LayeredBits", "get", "(II)I"⟩ ∈ TT := TT_in 232 rfl rfl
set_option maxRecDepth 20000 in
theorem tt233 : Cond.code ⟨"LayeredBits", "get", "(II)I"⟩ prog_1_method_5_code 3 (some FieldType.int) ∈ TT := TT_in 233 rfl rfl
set_option maxRecDepth 20000 in
theorem tt234 : Cond.methodLink "LayeredBits" 62 ⟨"LayeredBits$Picture", "pixel", "(II)I"⟩ ∈ TT := TT_in 234 rfl rfl
set_option maxRecDepth 20000 in
theorem tt235 : Cond.instanceMethod ⟨"LayeredBits$Picture", "pixel", "(II)I"⟩ ∈ TT := TT_in 235 rfl rfl
set_option maxRecDepth 20000 in
theorem tt236 : Cond.selects "LayeredBits$Picture" ⟨"LayeredBits$Picture", "pixel", "(II)I"⟩ ⟨"LayeredBits$Picture", "pixel", "(II)I"⟩ ∈ TT := TT_in 236 rfl rfl
set_option maxRecDepth 20000 in
theorem tt237 : Cond.code ⟨"LayeredBits$Picture", "pixel", "(II)I"⟩ prog_7_method_4_code 3 (some FieldType.int) ∈ TT := TT_in 237 rfl rfl
set_option maxRecDepth 20000 in
theorem tt238 : Cond.methodLink "LayeredBits$Picture" 28 ⟨"LayeredBits$Picture", "covers", "(II)Z"⟩ ∈ TT := TT_in 238 rfl rfl
set_option maxRecDepth 20000 in
theorem tt239 : Cond.instanceMethod ⟨"LayeredBits$Picture", "covers", "(II)Z"⟩ ∈ TT := TT_in 239 rfl rfl
set_option maxRecDepth 20000 in
theorem tt240 : Cond.selects "LayeredBits$Picture" ⟨"LayeredBits$Picture", "covers", "(II)Z"⟩ ⟨"LayeredBits$Picture", "covers", "(II)Z"⟩ ∈ TT := TT_in 240 rfl rfl
set_option maxRecDepth 20000 in
theorem tt241 : Cond.code ⟨"LayeredBits$Picture", "covers", "(II)Z"⟩ prog_7_method_3_code 3 (some FieldType.boolean) ∈ TT := TT_in 241 rfl rfl
set_option maxRecDepth 20000 in
theorem tt242 : Cond.methodLink "LayeredBitsLaw" 76 ⟨"LayeredBits", "width", "()I"⟩ ∈ TT := TT_in 242 rfl rfl
set_option maxRecDepth 20000 in
theorem tt243 : Cond.instanceMethod ⟨"LayeredBits", "width", "()I"⟩ ∈ TT := TT_in 243 rfl rfl
set_option maxRecDepth 20000 in
theorem tt244 : Cond.selects "LayeredBits" ⟨"LayeredBits", "width", "()I"⟩ ⟨"LayeredBits", "width", "()I"⟩ ∈ TT := TT_in 244 rfl rfl
set_option maxRecDepth 20000 in
theorem tt245 : Cond.code ⟨"LayeredBits", "width", "()I"⟩ prog_1_method_6_code 1 (some FieldType.int) ∈ TT := TT_in 245 rfl rfl
set_option maxRecDepth 20000 in
theorem tt246 : Cond.methodLink "LayeredBitsLaw" 80 ⟨"LayeredBits", "height", "()I"⟩ ∈ TT := TT_in 246 rfl rfl
set_option maxRecDepth 20000 in
theorem tt247 : Cond.instanceMethod ⟨"LayeredBits", "height", "()I"⟩ ∈ TT := TT_in 247 rfl rfl
set_option maxRecDepth 20000 in
theorem tt248 : Cond.selects "LayeredBits" ⟨"LayeredBits", "height", "()I"⟩ ⟨"LayeredBits", "height", "()I"⟩ ∈ TT := TT_in 248 rfl rfl
set_option maxRecDepth 20000 in
theorem tt249 : Cond.code ⟨"LayeredBits", "height", "()I"⟩ prog_1_method_7_code 1 (some FieldType.int) ∈ TT := TT_in 249 rfl rfl
set_option maxRecDepth 20000 in
theorem tt250 : Cond.methodLink "LayeredBitsLaw" 84 ⟨"LayeredBits", "halve", "()V"⟩ ∈ TT := TT_in 250 rfl rfl
set_option maxRecDepth 20000 in
theorem tt251 : Cond.instanceMethod ⟨"LayeredBits", "halve", "()V"⟩ ∈ TT := TT_in 251 rfl rfl
set_option maxRecDepth 20000 in
theorem tt252 : Cond.selects "LayeredBits" ⟨"LayeredBits", "halve", "()V"⟩ ⟨"LayeredBits", "halve", "()V"⟩ ∈ TT := TT_in 252 rfl rfl
set_option maxRecDepth 20000 in
theorem tt253 : Cond.code ⟨"LayeredBits", "halve", "()V"⟩ prog_1_method_8_code 1 none ∈ TT := TT_in 253 rfl rfl
set_option maxRecDepth 20000 in
theorem tt254 : Cond.methodLink "LayeredBits" 77 ⟨"LayeredBits$LayerStack", "split", "(LLayeredBits$Picture;I)V"⟩ ∈ TT := TT_in 254 rfl rfl
set_option maxRecDepth 20000 in
theorem tt255 : Cond.instanceMethod ⟨"LayeredBits$LayerStack", "split", "(LLayeredBits$Picture;I)V"⟩ ∈ TT := TT_in 255 rfl rfl
set_option maxRecDepth 20000 in
theorem tt256 : Cond.selects "LayeredBits$LayerStack" ⟨"LayeredBits$LayerStack", "split", "(LLayeredBits$Picture;I)V"⟩ ⟨"LayeredBits$LayerStack", "split", "(LLayeredBits$Picture;I)V"⟩ ∈ TT := TT_in 256 rfl rfl
set_option maxRecDepth 20000 in
theorem tt257 : Cond.code ⟨"LayeredBits$LayerStack", "split", "(LLayeredBits$Picture;I)V"⟩ prog_4_method_2_code 4 none ∈ TT := TT_in 257 rfl rfl
set_option maxRecDepth 20000 in
theorem tt258 : Cond.methodLink "LayeredBits$LayerStack" 29 ⟨"LayeredBits$Picture", "become", "(LLayeredBits$Picture;)V"⟩ ∈ TT := TT_in 258 rfl rfl
set_option maxRecDepth 20000 in
theorem tt259 : Cond.instanceMethod ⟨"LayeredBits$Picture", "become", "(LLayeredBits$Picture;)V"⟩ ∈ TT := TT_in 259 rfl rfl
set_option maxRecDepth 20000 in
theorem tt260 : Cond.selects "LayeredBits$Picture" ⟨"LayeredBits$Picture", "become", "(LLayeredBits$Picture;)V"⟩ ⟨"LayeredBits$Picture", "become", "(LLayeredBits$Picture;)V"⟩ ∈ TT := TT_in 260 rfl rfl
set_option maxRecDepth 20000 in
theorem tt261 : Cond.code ⟨"LayeredBits$Picture", "become", "(LLayeredBits$Picture;)V"⟩ prog_7_method_6_code 2 none ∈ TT := TT_in 261 rfl rfl
set_option maxRecDepth 20000 in
theorem tt262 : Cond.methodLink "LayeredBits$Picture" 32 ⟨"java/lang/System", "arraycopy", "(Ljava/lang/Object;ILjava/lang/Object;II)V"⟩ ∈ TT := TT_in 262 rfl rfl
set_option maxRecDepth 20000 in
theorem tt263 : Cond.static ⟨"java/lang/System", "arraycopy", "(Ljava/lang/Object;ILjava/lang/Object;II)V"⟩ ∈ TT := TT_in 263 rfl rfl
set_option maxRecDepth 20000 in
theorem tt264 : Cond.native ⟨"java/lang/System", "arraycopy", "(Ljava/lang/Object;ILjava/lang/Object;II)V"⟩ ∈ TT := TT_in 264 rfl rfl
set_option maxRecDepth 20000 in
theorem tt265 : Cond.methodLink "LayeredBits$LayerStack" 33 ⟨"LayeredBits$Picture", "becomeHalfOf", "(LLayeredBits$Picture;)V"⟩ ∈ TT := TT_in 265 rfl rfl
set_option maxRecDepth 20000 in
theorem tt266 : Cond.instanceMethod ⟨"LayeredBits$Picture", "becomeHalfOf", "(LLayeredBits$Picture;)V"⟩ ∈ TT := TT_in 266 rfl rfl
set_option maxRecDepth 20000 in
theorem tt267 : Cond.selects "LayeredBits$Picture" ⟨"LayeredBits$Picture", "becomeHalfOf", "(LLayeredBits$Picture;)V"⟩ ⟨"LayeredBits$Picture", "becomeHalfOf", "(LLayeredBits$Picture;)V"⟩ ∈ TT := TT_in 267 rfl rfl
set_option maxRecDepth 20000 in
theorem tt268 : Cond.code ⟨"LayeredBits$Picture", "becomeHalfOf", "(LLayeredBits$Picture;)V"⟩ prog_7_method_7_code 6 none ∈ TT := TT_in 268 rfl rfl
set_option maxRecDepth 20000 in
theorem nn269 : Cond.methodLinkNest "LayeredBits$Picture" 38 ⟨"LayeredBits", "halfSide", "(I)I"⟩ "LayeredBits" ∈ NW := NW_in 269 rfl rfl
set_option maxRecDepth 20000 in
theorem tt270 : Cond.static ⟨"LayeredBits", "halfSide", "(I)I"⟩ ∈ TT := TT_in 270 rfl rfl
set_option maxRecDepth 20000 in
theorem tt271 : Cond.code ⟨"LayeredBits", "halfSide", "(I)I"⟩ prog_1_method_17_code 1 (some FieldType.int) ∈ TT := TT_in 271 rfl rfl
set_option maxRecDepth 20000 in
theorem tt272 : Cond.methodLink "LayeredBits$Picture" 42 ⟨"LayeredBits$Picture", "blank", "(II)V"⟩ ∈ TT := TT_in 272 rfl rfl
set_option maxRecDepth 20000 in
theorem tt273 : Cond.instanceMethod ⟨"LayeredBits$Picture", "blank", "(II)V"⟩ ∈ TT := TT_in 273 rfl rfl
set_option maxRecDepth 20000 in
theorem tt274 : Cond.selects "LayeredBits$Picture" ⟨"LayeredBits$Picture", "blank", "(II)V"⟩ ⟨"LayeredBits$Picture", "blank", "(II)V"⟩ ∈ TT := TT_in 274 rfl rfl
set_option maxRecDepth 20000 in
theorem tt275 : Cond.code ⟨"LayeredBits$Picture", "blank", "(II)V"⟩ prog_7_method_2_code 3 none ∈ TT := TT_in 275 rfl rfl
set_option maxRecDepth 20000 in
theorem tt276 : Cond.methodLink "LayeredBits$Picture" 22 ⟨"java/util/Arrays", "fill", "([II)V"⟩ ∈ TT := TT_in 276 rfl rfl
set_option maxRecDepth 20000 in
theorem tt277 : Cond.static ⟨"java/util/Arrays", "fill", "([II)V"⟩ ∈ TT := TT_in 277 rfl rfl
set_option maxRecDepth 20000 in
theorem tt278 : Cond.code ⟨"java/util/Arrays", "fill", "([II)V"⟩ prog_19_method_103_code 4 none ∈ TT := TT_in 278 rfl rfl
set_option maxRecDepth 20000 in
theorem tt279 : Cond.methodLink "LayeredBits$Picture" 46 ⟨"LayeredBits$Picture", "weightAround", "(II)I"⟩ ∈ TT := TT_in 279 rfl rfl
set_option maxRecDepth 20000 in
theorem tt281 : Cond.instanceMethod ⟨"LayeredBits$Picture", "weightAround", "(II)I"⟩ ∈ TT := TT_in 281 rfl rfl
set_option maxRecDepth 20000 in
theorem tt282 : Cond.code ⟨"LayeredBits$Picture", "weightAround", "(II)I"⟩ prog_7_method_8_code 3 (some FieldType.int) ∈ TT := TT_in 282 rfl rfl
set_option maxRecDepth 20000 in
theorem tt283 : Cond.methodLink "LayeredBits$Picture" 57 ⟨"LayeredBits$Picture", "sumOfSquare", "(III)I"⟩ ∈ TT := TT_in 283 rfl rfl
set_option maxRecDepth 20000 in
theorem tt285 : Cond.instanceMethod ⟨"LayeredBits$Picture", "sumOfSquare", "(III)I"⟩ ∈ TT := TT_in 285 rfl rfl
set_option maxRecDepth 20000 in
theorem tt286 : Cond.code ⟨"LayeredBits$Picture", "sumOfSquare", "(III)I"⟩ prog_7_method_9_code 7 (some FieldType.int) ∈ TT := TT_in 286 rfl rfl
set_option maxRecDepth 20000 in
theorem tt287 : Cond.methodLink "LayeredBits$Picture" 50 ⟨"LayeredBits$Picture", "pixel", "(II)I"⟩ ∈ TT := TT_in 287 rfl rfl
set_option maxRecDepth 20000 in
theorem tt288 : Cond.methodLink "LayeredBits$Picture" 53 ⟨"LayeredBits$Picture", "paint", "(III)V"⟩ ∈ TT := TT_in 288 rfl rfl
set_option maxRecDepth 20000 in
theorem tt289 : Cond.instanceMethod ⟨"LayeredBits$Picture", "paint", "(III)V"⟩ ∈ TT := TT_in 289 rfl rfl
set_option maxRecDepth 20000 in
theorem tt290 : Cond.selects "LayeredBits$Picture" ⟨"LayeredBits$Picture", "paint", "(III)V"⟩ ⟨"LayeredBits$Picture", "paint", "(III)V"⟩ ∈ TT := TT_in 290 rfl rfl
set_option maxRecDepth 20000 in
theorem tt291 : Cond.code ⟨"LayeredBits$Picture", "paint", "(III)V"⟩ prog_7_method_5_code 4 none ∈ TT := TT_in 291 rfl rfl
set_option maxRecDepth 20000 in
theorem tt292 : Cond.methodLink "LayeredBits" 85 ⟨"LayeredBits$Picture", "become", "(LLayeredBits$Picture;)V"⟩ ∈ TT := TT_in 292 rfl rfl
set_option maxRecDepth 20000 in
theorem tt293 : Cond.methodLink "LayeredBitsLaw" 98 ⟨"LayeredBits", "size", "()I"⟩ ∈ TT := TT_in 293 rfl rfl
set_option maxRecDepth 20000 in
theorem tt294 : Cond.instanceMethod ⟨"LayeredBits", "size", "()I"⟩ ∈ TT := TT_in 294 rfl rfl
set_option maxRecDepth 20000 in
theorem tt295 : Cond.selects "LayeredBits" ⟨"LayeredBits", "size", "()I"⟩ ⟨"LayeredBits", "size", "()I"⟩ ∈ TT := TT_in 295 rfl rfl
set_option maxRecDepth 20000 in
theorem tt296 : Cond.code ⟨"LayeredBits", "size", "()I"⟩ prog_1_method_12_code 1 (some FieldType.int) ∈ TT := TT_in 296 rfl rfl
set_option maxRecDepth 20000 in
theorem tt297 : Cond.methodLink "LayeredBitsLaw" 54 ⟨"LayeredBitsLaw", "clear", "(LLayeredBits;II)I"⟩ ∈ TT := TT_in 297 rfl rfl
set_option maxRecDepth 20000 in
theorem tt298 : Cond.static ⟨"LayeredBitsLaw", "clear", "(LLayeredBits;II)I"⟩ ∈ TT := TT_in 298 rfl rfl
set_option maxRecDepth 20000 in
theorem tt300 : Cond.classLink "LayeredBitsLaw" 13 "java/lang/IllegalArgumentException" ∈ TT := TT_in 300 rfl rfl
set_option maxRecDepth 20000 in
theorem tt301 : Cond.methodLink "LayeredBitsLaw" 7 ⟨"LayeredBits", "clear", "(II)V"⟩ ∈ TT := TT_in 301 rfl rfl
set_option maxRecDepth 20000 in
theorem tt302 : Cond.instanceMethod ⟨"LayeredBits", "clear", "(II)V"⟩ ∈ TT := TT_in 302 rfl rfl
set_option maxRecDepth 20000 in
theorem tt303 : Cond.selects "LayeredBits" ⟨"LayeredBits", "clear", "(II)V"⟩ ⟨"LayeredBits", "clear", "(II)V"⟩ ∈ TT := TT_in 303 rfl rfl
set_option maxRecDepth 20000 in
theorem tt304 : Cond.code ⟨"LayeredBits", "clear", "(II)V"⟩ prog_1_method_2_code 3 none ∈ TT := TT_in 304 rfl rfl
set_option maxRecDepth 20000 in
theorem tt305 : Cond.classLink "LayeredBits" 48 "java/lang/IllegalArgumentException" ∈ TT := TT_in 305 rfl rfl
set_option maxRecDepth 20000 in
theorem tt306 : Cond.instantiable "java/lang/IllegalArgumentException" 6 ∈ TT := TT_in 306 rfl rfl
set_option maxRecDepth 20000 in
theorem nn308 : Cond.declares ⟨"java/lang/RuntimeException", "<init>", "()V"⟩ ∈ NW := NW_in 308 rfl rfl
set_option maxRecDepth 20000 in
theorem nn309 : Cond.declares ⟨"java/lang/RuntimeException", "<init>", "(Ljava/lang/String;)V"⟩ ∈ NW := NW_in 309 rfl rfl
set_option maxRecDepth 20000 in
theorem nn310 : Cond.declares ⟨"java/lang/Exception", "<init>", "()V"⟩ ∈ NW := NW_in 310 rfl rfl
set_option maxRecDepth 20000 in
theorem nn311 : Cond.declares ⟨"java/lang/Exception", "<init>", "(Ljava/lang/String;)V"⟩ ∈ NW := NW_in 311 rfl rfl
set_option maxRecDepth 20000 in
theorem nn312 : Cond.declares ⟨"java/lang/Throwable", "<init>", "()V"⟩ ∈ NW := NW_in 312 rfl rfl
set_option maxRecDepth 20000 in
theorem nn313 : Cond.declares ⟨"java/lang/Throwable", "<init>", "(Ljava/lang/String;)V"⟩ ∈ NW := NW_in 313 rfl rfl
set_option maxRecDepth 20000 in
theorem tt314 : Cond.selects "java/lang/IllegalArgumentException" ⟨"java/lang/Throwable", "fillInStackTrace", "(I)Ljava/lang/Throwable;"⟩ ⟨"java/lang/Throwable", "fillInStackTrace", "(I)Ljava/lang/Throwable;"⟩ ∈ TT := TT_in 314 rfl rfl
set_option maxRecDepth 20000 in
theorem tt315 : Cond.selects "java/lang/IllegalArgumentException" ⟨"java/lang/Throwable", "fillInStackTrace", "()Ljava/lang/Throwable;"⟩ ⟨"java/lang/Throwable", "fillInStackTrace", "()Ljava/lang/Throwable;"⟩ ∈ TT := TT_in 315 rfl rfl
set_option maxRecDepth 20000 in
theorem tt326 : Cond.fieldLink "java/lang/Throwable" 198 "java/lang/Throwable" "backtrace" "Ljava/lang/Object;" ∈ TT := TT_in 326 rfl rfl
set_option maxRecDepth 20000 in
theorem tt328 : Cond.instanceMethod ⟨"java/lang/Throwable", "<init>", "()V"⟩ ∈ TT := TT_in 328 rfl rfl
set_option maxRecDepth 20000 in
theorem tt329 : Cond.code ⟨"java/lang/Throwable", "<init>", "()V"⟩ prog_18_method_1_code 1 none ∈ TT := TT_in 329 rfl rfl
set_option maxRecDepth 20000 in
theorem tt330 : Cond.methodLink "java/lang/Throwable" 1 ⟨"java/lang/Object", "<init>", "()V"⟩ ∈ TT := TT_in 330 rfl rfl
set_option maxRecDepth 20000 in
theorem tt331 : Cond.fieldLink "java/lang/Throwable" 13 "java/lang/Throwable" "UNASSIGNED_STACK" "[Ljava/lang/StackTraceElement;" ∈ TT := TT_in 331 rfl rfl
set_option maxRecDepth 20000 in
theorem tt333 : Cond.fieldLink "java/lang/Throwable" 20 "java/lang/Throwable" "SUPPRESSED_SENTINEL" "Ljava/util/List;" ∈ TT := TT_in 333 rfl rfl
set_option maxRecDepth 20000 in
theorem tt335 : Cond.methodLink "java/lang/Throwable" 27 ⟨"java/lang/Throwable", "fillInStackTrace", "()Ljava/lang/Throwable;"⟩ ∈ TT := TT_in 335 rfl rfl
set_option maxRecDepth 20000 in
theorem tt336 : Cond.instanceMethod ⟨"java/lang/Throwable", "fillInStackTrace", "()Ljava/lang/Throwable;"⟩ ∈ TT := TT_in 336 rfl rfl
set_option maxRecDepth 20000 in
theorem tt337 : Cond.sameMethod "java/lang/Throwable" "java/lang/Throwable" "fillInStackTrace" "()Ljava/lang/Throwable;" ∈ TT := TT_in 337 rfl rfl
set_option maxRecDepth 20000 in
theorem tt338 : Cond.selects "java/lang/IllegalStateException" ⟨"java/lang/Throwable", "fillInStackTrace", "()Ljava/lang/Throwable;"⟩ ⟨"java/lang/Throwable", "fillInStackTrace", "()Ljava/lang/Throwable;"⟩ ∈ TT := TT_in 338 rfl rfl
set_option maxRecDepth 20000 in
theorem tt339 : Cond.selects "java/lang/IndexOutOfBoundsException" ⟨"java/lang/Throwable", "fillInStackTrace", "()Ljava/lang/Throwable;"⟩ ⟨"java/lang/Throwable", "fillInStackTrace", "()Ljava/lang/Throwable;"⟩ ∈ TT := TT_in 339 rfl rfl
set_option maxRecDepth 20000 in
theorem tt341 : Cond.methodLink "java/lang/Throwable" 202 ⟨"java/lang/Throwable", "fillInStackTrace", "(I)Ljava/lang/Throwable;"⟩ ∈ TT := TT_in 341 rfl rfl
set_option maxRecDepth 20000 in
theorem tt343 : Cond.instanceMethod ⟨"java/lang/Throwable", "fillInStackTrace", "(I)Ljava/lang/Throwable;"⟩ ∈ TT := TT_in 343 rfl rfl
set_option maxRecDepth 20000 in
theorem tt344 : Cond.instantiable "java/lang/Throwable" 6 ∈ TT := TT_in 344 rfl rfl
set_option maxRecDepth 20000 in
theorem tt345 : Cond.native ⟨"java/lang/Throwable", "fillInStackTrace", "(I)Ljava/lang/Throwable;"⟩ ∈ TT := TT_in 345 rfl rfl
set_option maxRecDepth 20000 in
theorem tt346 : Cond.methodLink "LayeredBits" 50 ⟨"java/lang/IllegalArgumentException", "<init>", "()V"⟩ ∈ TT := TT_in 346 rfl rfl
set_option maxRecDepth 20000 in
theorem tt347 : Cond.instanceMethod ⟨"java/lang/IllegalArgumentException", "<init>", "()V"⟩ ∈ TT := TT_in 347 rfl rfl
set_option maxRecDepth 20000 in
theorem tt348 : Cond.code ⟨"java/lang/IllegalArgumentException", "<init>", "()V"⟩ prog_12_method_1_code 1 none ∈ TT := TT_in 348 rfl rfl
set_option maxRecDepth 20000 in
theorem tt349 : Cond.methodLink "java/lang/IllegalArgumentException" 1 ⟨"java/lang/RuntimeException", "<init>", "()V"⟩ ∈ TT := TT_in 349 rfl rfl
set_option maxRecDepth 20000 in
theorem tt350 : Cond.instanceMethod ⟨"java/lang/RuntimeException", "<init>", "()V"⟩ ∈ TT := TT_in 350 rfl rfl
set_option maxRecDepth 20000 in
theorem tt351 : Cond.code ⟨"java/lang/RuntimeException", "<init>", "()V"⟩ prog_16_method_1_code 1 none ∈ TT := TT_in 351 rfl rfl
set_option maxRecDepth 20000 in
theorem tt352 : Cond.methodLink "java/lang/RuntimeException" 1 ⟨"java/lang/Exception", "<init>", "()V"⟩ ∈ TT := TT_in 352 rfl rfl
set_option maxRecDepth 20000 in
theorem tt353 : Cond.instanceMethod ⟨"java/lang/Exception", "<init>", "()V"⟩ ∈ TT := TT_in 353 rfl rfl
set_option maxRecDepth 20000 in
theorem tt354 : Cond.code ⟨"java/lang/Exception", "<init>", "()V"⟩ prog_11_method_1_code 1 none ∈ TT := TT_in 354 rfl rfl
set_option maxRecDepth 20000 in
theorem tt355 : Cond.methodLink "java/lang/Exception" 1 ⟨"java/lang/Throwable", "<init>", "()V"⟩ ∈ TT := TT_in 355 rfl rfl
set_option maxRecDepth 20000 in
theorem tt356 : Cond.fieldLink "java/lang/Throwable" 198 "java/lang/Throwable" "backtrace" "Ljava/lang/Object;" ∈ TT := TT_in 356 rfl rfl
set_option maxRecDepth 20000 in
theorem tt357 : Cond.fieldLink "java/lang/Throwable" 7 "java/lang/Throwable" "cause" "Ljava/lang/Throwable;" ∈ TT := TT_in 357 rfl rfl
set_option maxRecDepth 20000 in
theorem tt358 : Cond.fieldLink "java/lang/Throwable" 17 "java/lang/Throwable" "stackTrace" "[Ljava/lang/StackTraceElement;" ∈ TT := TT_in 358 rfl rfl
set_option maxRecDepth 20000 in
theorem tt359 : Cond.fieldLink "java/lang/Throwable" 24 "java/lang/Throwable" "suppressedExceptions" "Ljava/util/List;" ∈ TT := TT_in 359 rfl rfl
set_option maxRecDepth 20000 in
theorem tt368 : Cond.methodLink "LayeredBits" 51 ⟨"LayeredBits$Picture", "blank", "(II)V"⟩ ∈ TT := TT_in 368 rfl rfl
set_option maxRecDepth 20000 in
theorem tt369 : Cond.methodLink "LayeredBitsLaw" 64 ⟨"LayeredBitsLaw", "set", "(LLayeredBits;III[J)I"⟩ ∈ TT := TT_in 369 rfl rfl
set_option maxRecDepth 20000 in
theorem tt370 : Cond.static ⟨"LayeredBitsLaw", "set", "(LLayeredBits;III[J)I"⟩ ∈ TT := TT_in 370 rfl rfl
set_option maxRecDepth 20000 in
theorem tt372 : Cond.classLink "LayeredBitsLaw" 19 "java/lang/IndexOutOfBoundsException" ∈ TT := TT_in 372 rfl rfl
set_option maxRecDepth 20000 in
theorem tt373 : Cond.methodLink "LayeredBitsLaw" 15 ⟨"LayeredBits", "set", "(III)I"⟩ ∈ TT := TT_in 373 rfl rfl
set_option maxRecDepth 20000 in
theorem tt374 : Cond.instanceMethod ⟨"LayeredBits", "set", "(III)I"⟩ ∈ TT := TT_in 374 rfl rfl
set_option maxRecDepth 20000 in
theorem tt375 : Cond.selects "LayeredBits" ⟨"LayeredBits", "set", "(III)I"⟩ ⟨"LayeredBits", "set", "(III)I"⟩ ∈ TT := TT_in 375 rfl rfl
set_option maxRecDepth 20000 in
theorem tt376 : Cond.code ⟨"LayeredBits", "set", "(III)I"⟩ prog_1_method_3_code 5 (some FieldType.int) ∈ TT := TT_in 376 rfl rfl
set_option maxRecDepth 20000 in
theorem tt377 : Cond.methodLink "LayeredBits" 55 ⟨"LayeredBits$Picture", "covers", "(II)Z"⟩ ∈ TT := TT_in 377 rfl rfl
set_option maxRecDepth 20000 in
theorem tt378 : Cond.classLink "LayeredBits" 59 "java/lang/IndexOutOfBoundsException" ∈ TT := TT_in 378 rfl rfl
set_option maxRecDepth 20000 in
theorem tt379 : Cond.instantiable "java/lang/IndexOutOfBoundsException" 6 ∈ TT := TT_in 379 rfl rfl
set_option maxRecDepth 20000 in
theorem tt381 : Cond.selects "java/lang/IndexOutOfBoundsException" ⟨"java/lang/Throwable", "fillInStackTrace", "(I)Ljava/lang/Throwable;"⟩ ⟨"java/lang/Throwable", "fillInStackTrace", "(I)Ljava/lang/Throwable;"⟩ ∈ TT := TT_in 381 rfl rfl
set_option maxRecDepth 20000 in
theorem tt387 : Cond.methodLink "LayeredBits" 61 ⟨"java/lang/IndexOutOfBoundsException", "<init>", "()V"⟩ ∈ TT := TT_in 387 rfl rfl
set_option maxRecDepth 20000 in
theorem tt388 : Cond.instanceMethod ⟨"java/lang/IndexOutOfBoundsException", "<init>", "()V"⟩ ∈ TT := TT_in 388 rfl rfl
set_option maxRecDepth 20000 in
theorem tt389 : Cond.code ⟨"java/lang/IndexOutOfBoundsException", "<init>", "()V"⟩ prog_14_method_1_code 1 none ∈ TT := TT_in 389 rfl rfl
set_option maxRecDepth 20000 in
theorem tt390 : Cond.methodLink "java/lang/IndexOutOfBoundsException" 1 ⟨"java/lang/RuntimeException", "<init>", "()V"⟩ ∈ TT := TT_in 390 rfl rfl
set_option maxRecDepth 20000 in
theorem tt393 : Cond.methodLink "LayeredBits" 66 ⟨"LayeredBits$Picture", "paint", "(III)V"⟩ ∈ TT := TT_in 393 rfl rfl
set_option maxRecDepth 20000 in
theorem tt394 : Cond.methodLink "LayeredBitsLaw" 68 ⟨"LayeredBitsLaw", "row", "(LLayeredBits;II)I"⟩ ∈ TT := TT_in 394 rfl rfl
set_option maxRecDepth 20000 in
theorem tt395 : Cond.static ⟨"LayeredBitsLaw", "row", "(LLayeredBits;II)I"⟩ ∈ TT := TT_in 395 rfl rfl
set_option maxRecDepth 20000 in
theorem tt397 : Cond.methodLink "LayeredBitsLaw" 21 ⟨"LayeredBits", "row", "(II)V"⟩ ∈ TT := TT_in 397 rfl rfl
set_option maxRecDepth 20000 in
theorem tt398 : Cond.instanceMethod ⟨"LayeredBits", "row", "(II)V"⟩ ∈ TT := TT_in 398 rfl rfl
set_option maxRecDepth 20000 in
theorem tt399 : Cond.selects "LayeredBits" ⟨"LayeredBits", "row", "(II)V"⟩ ⟨"LayeredBits", "row", "(II)V"⟩ ∈ TT := TT_in 399 rfl rfl
set_option maxRecDepth 20000 in
theorem tt400 : Cond.code ⟨"LayeredBits", "row", "(II)V"⟩ prog_1_method_4_code 4 none ∈ TT := TT_in 400 rfl rfl
set_option maxRecDepth 20000 in
theorem tt401 : Cond.methodLink "LayeredBitsLaw" 88 ⟨"LayeredBitsLaw", "write", "(LLayeredBits;I[J)I"⟩ ∈ TT := TT_in 401 rfl rfl
set_option maxRecDepth 20000 in
theorem tt402 : Cond.static ⟨"LayeredBitsLaw", "write", "(LLayeredBits;I[J)I"⟩ ∈ TT := TT_in 402 rfl rfl
set_option maxRecDepth 20000 in
theorem tt404 : Cond.methodLink "LayeredBitsLaw" 24 ⟨"LayeredBits", "write", "(I)I"⟩ ∈ TT := TT_in 404 rfl rfl
set_option maxRecDepth 20000 in
theorem tt405 : Cond.instanceMethod ⟨"LayeredBits", "write", "(I)I"⟩ ∈ TT := TT_in 405 rfl rfl
set_option maxRecDepth 20000 in
theorem tt406 : Cond.selects "LayeredBits" ⟨"LayeredBits", "write", "(I)I"⟩ ⟨"LayeredBits", "write", "(I)I"⟩ ∈ TT := TT_in 406 rfl rfl
set_option maxRecDepth 20000 in
theorem tt407 : Cond.code ⟨"LayeredBits", "write", "(I)I"⟩ prog_1_method_9_code 3 (some FieldType.int) ∈ TT := TT_in 407 rfl rfl
set_option maxRecDepth 20000 in
theorem tt408 : Cond.methodLink "LayeredBits" 89 ⟨"LayeredBits$LayeredFile", "keep", "(I)V"⟩ ∈ TT := TT_in 408 rfl rfl
set_option maxRecDepth 20000 in
theorem tt409 : Cond.instanceMethod ⟨"LayeredBits$LayeredFile", "keep", "(I)V"⟩ ∈ TT := TT_in 409 rfl rfl
set_option maxRecDepth 20000 in
theorem tt410 : Cond.selects "LayeredBits$LayeredFile" ⟨"LayeredBits$LayeredFile", "keep", "(I)V"⟩ ⟨"LayeredBits$LayeredFile", "keep", "(I)V"⟩ ∈ TT := TT_in 410 rfl rfl
set_option maxRecDepth 20000 in
theorem tt411 : Cond.code ⟨"LayeredBits$LayeredFile", "keep", "(I)V"⟩ prog_5_method_6_code 2 none ∈ TT := TT_in 411 rfl rfl
set_option maxRecDepth 20000 in
theorem tt412 : Cond.methodLink "LayeredBits" 93 ⟨"LayeredBits$LayeredFile", "append", "(I)V"⟩ ∈ TT := TT_in 412 rfl rfl
set_option maxRecDepth 20000 in
theorem tt413 : Cond.instanceMethod ⟨"LayeredBits$LayeredFile", "append", "(I)V"⟩ ∈ TT := TT_in 413 rfl rfl
set_option maxRecDepth 20000 in
theorem tt414 : Cond.selects "LayeredBits$LayeredFile" ⟨"LayeredBits$LayeredFile", "append", "(I)V"⟩ ⟨"LayeredBits$LayeredFile", "append", "(I)V"⟩ ∈ TT := TT_in 414 rfl rfl
set_option maxRecDepth 20000 in
theorem tt415 : Cond.code ⟨"LayeredBits$LayeredFile", "append", "(I)V"⟩ prog_5_method_5_code 2 none ∈ TT := TT_in 415 rfl rfl
set_option maxRecDepth 20000 in
theorem tt416 : Cond.methodLink "LayeredBits" 96 ⟨"LayeredBits$MadeNumber", "begin", "()V"⟩ ∈ TT := TT_in 416 rfl rfl
set_option maxRecDepth 20000 in
theorem tt417 : Cond.instanceMethod ⟨"LayeredBits$MadeNumber", "begin", "()V"⟩ ∈ TT := TT_in 417 rfl rfl
set_option maxRecDepth 20000 in
theorem tt418 : Cond.selects "LayeredBits$MadeNumber" ⟨"LayeredBits$MadeNumber", "begin", "()V"⟩ ⟨"LayeredBits$MadeNumber", "begin", "()V"⟩ ∈ TT := TT_in 418 rfl rfl
set_option maxRecDepth 20000 in
theorem tt419 : Cond.code ⟨"LayeredBits$MadeNumber", "begin", "()V"⟩ prog_6_method_2_code 1 none ∈ TT := TT_in 419 rfl rfl
set_option maxRecDepth 20000 in
theorem tt420 : Cond.methodLink "LayeredBits$MadeNumber" 19 ⟨"java/util/Arrays", "fill", "([IIII)V"⟩ ∈ TT := TT_in 420 rfl rfl
set_option maxRecDepth 20000 in
theorem tt421 : Cond.static ⟨"java/util/Arrays", "fill", "([IIII)V"⟩ ∈ TT := TT_in 421 rfl rfl
set_option maxRecDepth 20000 in
theorem tt422 : Cond.code ⟨"java/util/Arrays", "fill", "([IIII)V"⟩ prog_19_method_104_code 5 none ∈ TT := TT_in 422 rfl rfl
set_option maxRecDepth 20000 in
theorem tt423 : Cond.methodLink "java/util/Arrays" 13 ⟨"java/util/Arrays", "rangeCheck", "(III)V"⟩ ∈ TT := TT_in 423 rfl rfl
set_option maxRecDepth 20000 in
theorem tt424 : Cond.static ⟨"java/util/Arrays", "rangeCheck", "(III)V"⟩ ∈ TT := TT_in 424 rfl rfl
set_option maxRecDepth 20000 in
theorem tt425 : Cond.code ⟨"java/util/Arrays", "rangeCheck", "(III)V"⟩ prog_19_method_30_code 3 none ∈ TT := TT_in 425 rfl rfl
set_option maxRecDepth 20000 in
theorem tt426 : Cond.methodLink "LayeredBits" 99 ⟨"LayeredBits$LayerStack", "codeLayer", "(ILLayeredBits$CodeNumber;)V"⟩ ∈ TT := TT_in 426 rfl rfl
set_option maxRecDepth 20000 in
theorem tt427 : Cond.instanceMethod ⟨"LayeredBits$LayerStack", "codeLayer", "(ILLayeredBits$CodeNumber;)V"⟩ ∈ TT := TT_in 427 rfl rfl
set_option maxRecDepth 20000 in
theorem tt428 : Cond.selects "LayeredBits$LayerStack" ⟨"LayeredBits$LayerStack", "codeLayer", "(ILLayeredBits$CodeNumber;)V"⟩ ⟨"LayeredBits$LayerStack", "codeLayer", "(ILLayeredBits$CodeNumber;)V"⟩ ∈ TT := TT_in 428 rfl rfl
set_option maxRecDepth 20000 in
theorem tt429 : Cond.code ⟨"LayeredBits$LayerStack", "codeLayer", "(ILLayeredBits$CodeNumber;)V"⟩ prog_4_method_4_code 5 none ∈ TT := TT_in 429 rfl rfl
set_option maxRecDepth 20000 in
theorem tt430 : Cond.methodLink "LayeredBits$LayerStack" 44 ⟨"LayeredBits$DecisionCoder", "begin", "()V"⟩ ∈ TT := TT_in 430 rfl rfl
set_option maxRecDepth 20000 in
theorem tt431 : Cond.instanceMethod ⟨"LayeredBits$DecisionCoder", "begin", "()V"⟩ ∈ TT := TT_in 431 rfl rfl
set_option maxRecDepth 20000 in
theorem tt432 : Cond.selects "LayeredBits$DecisionCoder" ⟨"LayeredBits$DecisionCoder", "begin", "()V"⟩ ⟨"LayeredBits$DecisionCoder", "begin", "()V"⟩ ∈ TT := TT_in 432 rfl rfl
set_option maxRecDepth 20000 in
theorem tt433 : Cond.code ⟨"LayeredBits$DecisionCoder", "begin", "()V"⟩ prog_3_method_2_code 1 none ∈ TT := TT_in 433 rfl rfl
set_option maxRecDepth 20000 in
theorem tt434 : Cond.methodLink "LayeredBits$DecisionCoder" 29 ⟨"java/util/Arrays", "fill", "([II)V"⟩ ∈ TT := TT_in 434 rfl rfl
set_option maxRecDepth 20000 in
theorem tt435 : Cond.methodLink "LayeredBits$LayerStack" 50 ⟨"LayeredBits$LayerStack", "isPlain", "(II)Z"⟩ ∈ TT := TT_in 435 rfl rfl
set_option maxRecDepth 20000 in
theorem tt437 : Cond.instanceMethod ⟨"LayeredBits$LayerStack", "isPlain", "(II)Z"⟩ ∈ TT := TT_in 437 rfl rfl
set_option maxRecDepth 20000 in
theorem tt438 : Cond.code ⟨"LayeredBits$LayerStack", "isPlain", "(II)Z"⟩ prog_4_method_6_code 4 (some FieldType.boolean) ∈ TT := TT_in 438 rfl rfl
set_option maxRecDepth 20000 in
theorem tt439 : Cond.methodLink "LayeredBits$LayerStack" 76 ⟨"LayeredBits$Picture", "pixel", "(II)I"⟩ ∈ TT := TT_in 439 rfl rfl
set_option maxRecDepth 20000 in
theorem tt440 : Cond.methodLink "LayeredBits$LayerStack" 83 ⟨"LayeredBits$LayerStack", "plainPixel", "(III)I"⟩ ∈ TT := TT_in 440 rfl rfl
set_option maxRecDepth 20000 in
theorem tt442 : Cond.instanceMethod ⟨"LayeredBits$LayerStack", "plainPixel", "(III)I"⟩ ∈ TT := TT_in 442 rfl rfl
set_option maxRecDepth 20000 in
theorem tt443 : Cond.code ⟨"LayeredBits$LayerStack", "plainPixel", "(III)I"⟩ prog_4_method_8_code 4 (some FieldType.int) ∈ TT := TT_in 443 rfl rfl
set_option maxRecDepth 20000 in
theorem tt444 : Cond.methodLink "LayeredBits$LayerStack" 54 ⟨"LayeredBits$DecisionCoder", "decide", "(IILLayeredBits$CodeNumber;)I"⟩ ∈ TT := TT_in 444 rfl rfl
set_option maxRecDepth 20000 in
theorem tt445 : Cond.instanceMethod ⟨"LayeredBits$DecisionCoder", "decide", "(IILLayeredBits$CodeNumber;)I"⟩ ∈ TT := TT_in 445 rfl rfl
set_option maxRecDepth 20000 in
theorem tt446 : Cond.selects "LayeredBits$DecisionCoder" ⟨"LayeredBits$DecisionCoder", "decide", "(IILLayeredBits$CodeNumber;)I"⟩ ⟨"LayeredBits$DecisionCoder", "decide", "(IILLayeredBits$CodeNumber;)I"⟩ ∈ TT := TT_in 446 rfl rfl
set_option maxRecDepth 20000 in
theorem tt447 : Cond.code ⟨"LayeredBits$DecisionCoder", "decide", "(IILLayeredBits$CodeNumber;)I"⟩ prog_3_method_3_code 9 (some FieldType.int) ∈ TT := TT_in 447 rfl rfl
set_option maxRecDepth 20000 in
theorem nn448 : Cond.fieldLinkNest "LayeredBits$DecisionCoder" 35 "LayeredBits" "Q" "[I" "LayeredBits" ∈ NW := NW_in 448 rfl rfl
set_option maxRecDepth 20000 in
theorem tt450 : Cond.methodLink "LayeredBits$DecisionCoder" 38 ⟨"LayeredBits$CodeNumber", "decision", "(IIZI)I"⟩ ∈ TT := TT_in 450 rfl rfl
set_option maxRecDepth 20000 in
theorem nn451 : Cond.declares ⟨"LayeredBits$CodeNumber", "decision", "(IIZI)I"⟩ ∈ NW := NW_in 451 rfl rfl
set_option maxRecDepth 20000 in
theorem tt452 : Cond.sameMethod "LayeredBits$CodeNumber" "LayeredBits$CodeNumber" "decision" "(IIZI)I" ∈ TT := TT_in 452 rfl rfl
set_option maxRecDepth 100000 in
theorem in_Cod : ∀ w ∈ u_ws R_Cod F_Cod 5, w ∈ TT := by decide +kernel
set_option maxRecDepth 100000 in
theorem in_Stk : ∀ w ∈ u_ws R_Stk F_Stk 3, w ∈ TT := by decide +kernel
set_option maxRecDepth 100000 in
theorem in_Fil : ∀ w ∈ u_ws R_Fil F_Fil 8, w ∈ TT := by decide +kernel
set_option maxRecDepth 100000 in
theorem in_Mad : ∀ w ∈ u_ws R_Mad F_Mad 2, w ∈ TT := by decide +kernel
