set_option maxRecDepth 20000 in
theorem tt453 : Cond.selects "LayeredBits$MadeNumber" ⟨"LayeredBits$CodeNumber", "decision", "(IIZI)I"⟩ ⟨"LayeredBits$MadeNumber", "decision", "(IIZI)I"⟩ ∈ TT := TT_in 453 rfl rfl
set_option maxRecDepth 20000 in
theorem tt454 : Cond.instanceMethod ⟨"LayeredBits$MadeNumber", "decision", "(IIZI)I"⟩ ∈ TT := TT_in 454 rfl rfl
set_option maxRecDepth 20000 in
theorem tt455 : Cond.code ⟨"LayeredBits$MadeNumber", "decision", "(IIZI)I"⟩ prog_6_method_3_code 5 (some FieldType.int) ∈ TT := TT_in 455 rfl rfl
set_option maxRecDepth 20000 in
theorem tt456 : Cond.selects "LayeredBits$TakenNumber" ⟨"LayeredBits$CodeNumber", "decision", "(IIZI)I"⟩ ⟨"LayeredBits$TakenNumber", "decision", "(IIZI)I"⟩ ∈ TT := TT_in 456 rfl rfl
set_option maxRecDepth 20000 in
theorem tt457 : Cond.instanceMethod ⟨"LayeredBits$TakenNumber", "decision", "(IIZI)I"⟩ ∈ TT := TT_in 457 rfl rfl
set_option maxRecDepth 20000 in
theorem tt458 : Cond.code ⟨"LayeredBits$TakenNumber", "decision", "(IIZI)I"⟩ prog_8_method_3_code 6 (some FieldType.int) ∈ TT := TT_in 458 rfl rfl
set_option maxRecDepth 20000 in
theorem tt459 : Cond.constant "LayeredBits$DecisionCoder" 44 (32768 : Int32) ∈ TT := TT_in 459 rfl rfl
set_option maxRecDepth 20000 in
theorem tt460 : Cond.methodLink "LayeredBits$DecisionCoder" 45 ⟨"LayeredBits$CodeNumber", "grow", "(I)V"⟩ ∈ TT := TT_in 460 rfl rfl
set_option maxRecDepth 20000 in
theorem nn461 : Cond.declares ⟨"LayeredBits$CodeNumber", "grow", "(I)V"⟩ ∈ NW := NW_in 461 rfl rfl
set_option maxRecDepth 20000 in
theorem tt462 : Cond.sameMethod "LayeredBits$CodeNumber" "LayeredBits$CodeNumber" "grow" "(I)V" ∈ TT := TT_in 462 rfl rfl
set_option maxRecDepth 20000 in
theorem tt463 : Cond.selects "LayeredBits$MadeNumber" ⟨"LayeredBits$CodeNumber", "grow", "(I)V"⟩ ⟨"LayeredBits$MadeNumber", "grow", "(I)V"⟩ ∈ TT := TT_in 463 rfl rfl
set_option maxRecDepth 20000 in
theorem tt464 : Cond.instanceMethod ⟨"LayeredBits$MadeNumber", "grow", "(I)V"⟩ ∈ TT := TT_in 464 rfl rfl
set_option maxRecDepth 20000 in
theorem tt465 : Cond.code ⟨"LayeredBits$MadeNumber", "grow", "(I)V"⟩ prog_6_method_4_code 5 none ∈ TT := TT_in 465 rfl rfl
set_option maxRecDepth 20000 in
theorem tt466 : Cond.selects "LayeredBits$TakenNumber" ⟨"LayeredBits$CodeNumber", "grow", "(I)V"⟩ ⟨"LayeredBits$TakenNumber", "grow", "(I)V"⟩ ∈ TT := TT_in 466 rfl rfl
set_option maxRecDepth 20000 in
theorem tt467 : Cond.instanceMethod ⟨"LayeredBits$TakenNumber", "grow", "(I)V"⟩ ∈ TT := TT_in 467 rfl rfl
set_option maxRecDepth 20000 in
theorem tt468 : Cond.code ⟨"LayeredBits$TakenNumber", "grow", "(I)V"⟩ prog_8_method_4_code 2 none ∈ TT := TT_in 468 rfl rfl
set_option maxRecDepth 20000 in
theorem tt469 : Cond.methodLink "LayeredBits$DecisionCoder" 49 ⟨"LayeredBits$DecisionCoder", "adapt", "(IZ)V"⟩ ∈ TT := TT_in 469 rfl rfl
set_option maxRecDepth 20000 in
theorem tt471 : Cond.instanceMethod ⟨"LayeredBits$DecisionCoder", "adapt", "(IZ)V"⟩ ∈ TT := TT_in 471 rfl rfl
set_option maxRecDepth 20000 in
theorem tt472 : Cond.code ⟨"LayeredBits$DecisionCoder", "adapt", "(IZ)V"⟩ prog_3_method_4_code 4 none ∈ TT := TT_in 472 rfl rfl
set_option maxRecDepth 20000 in
theorem tt473 : Cond.methodLink "LayeredBits$DecisionCoder" 57 ⟨"java/lang/Math", "min", "(II)I"⟩ ∈ TT := TT_in 473 rfl rfl
set_option maxRecDepth 20000 in
theorem tt474 : Cond.static ⟨"java/lang/Math", "min", "(II)I"⟩ ∈ TT := TT_in 474 rfl rfl
set_option maxRecDepth 20000 in
theorem tt475 : Cond.code ⟨"java/lang/Math", "min", "(II)I"⟩ prog_15_method_69_code 2 (some FieldType.int) ∈ TT := TT_in 475 rfl rfl
set_option maxRecDepth 20000 in
theorem tt476 : Cond.methodLink "LayeredBits$DecisionCoder" 63 ⟨"java/lang/Math", "max", "(II)I"⟩ ∈ TT := TT_in 476 rfl rfl
set_option maxRecDepth 20000 in
theorem tt477 : Cond.static ⟨"java/lang/Math", "max", "(II)I"⟩ ∈ TT := TT_in 477 rfl rfl
set_option maxRecDepth 20000 in
theorem tt478 : Cond.code ⟨"java/lang/Math", "max", "(II)I"⟩ prog_15_method_65_code 2 (some FieldType.int) ∈ TT := TT_in 478 rfl rfl
set_option maxRecDepth 20000 in
theorem tt479 : Cond.methodLink "LayeredBits$DecisionCoder" 53 ⟨"LayeredBits$DecisionCoder", "widen", "(LLayeredBits$CodeNumber;)V"⟩ ∈ TT := TT_in 479 rfl rfl
set_option maxRecDepth 20000 in
theorem tt481 : Cond.instanceMethod ⟨"LayeredBits$DecisionCoder", "widen", "(LLayeredBits$CodeNumber;)V"⟩ ∈ TT := TT_in 481 rfl rfl
set_option maxRecDepth 20000 in
theorem tt482 : Cond.code ⟨"LayeredBits$DecisionCoder", "widen", "(LLayeredBits$CodeNumber;)V"⟩ prog_3_method_5_code 3 none ∈ TT := TT_in 482 rfl rfl
set_option maxRecDepth 20000 in
theorem tt483 : Cond.methodLink "LayeredBits$DecisionCoder" 66 ⟨"LayeredBits$CodeNumber", "makeDouble", "()V"⟩ ∈ TT := TT_in 483 rfl rfl
set_option maxRecDepth 20000 in
theorem nn484 : Cond.declares ⟨"LayeredBits$CodeNumber", "makeDouble", "()V"⟩ ∈ NW := NW_in 484 rfl rfl
set_option maxRecDepth 20000 in
theorem tt485 : Cond.sameMethod "LayeredBits$CodeNumber" "LayeredBits$CodeNumber" "makeDouble" "()V" ∈ TT := TT_in 485 rfl rfl
set_option maxRecDepth 20000 in
theorem tt486 : Cond.selects "LayeredBits$MadeNumber" ⟨"LayeredBits$CodeNumber", "makeDouble", "()V"⟩ ⟨"LayeredBits$MadeNumber", "makeDouble", "()V"⟩ ∈ TT := TT_in 486 rfl rfl
set_option maxRecDepth 20000 in
theorem tt487 : Cond.instanceMethod ⟨"LayeredBits$MadeNumber", "makeDouble", "()V"⟩ ∈ TT := TT_in 487 rfl rfl
set_option maxRecDepth 20000 in
theorem tt488 : Cond.code ⟨"LayeredBits$MadeNumber", "makeDouble", "()V"⟩ prog_6_method_5_code 1 none ∈ TT := TT_in 488 rfl rfl
set_option maxRecDepth 20000 in
theorem tt489 : Cond.selects "LayeredBits$TakenNumber" ⟨"LayeredBits$CodeNumber", "makeDouble", "()V"⟩ ⟨"LayeredBits$TakenNumber", "makeDouble", "()V"⟩ ∈ TT := TT_in 489 rfl rfl
set_option maxRecDepth 20000 in
theorem tt490 : Cond.instanceMethod ⟨"LayeredBits$TakenNumber", "makeDouble", "()V"⟩ ∈ TT := TT_in 490 rfl rfl
set_option maxRecDepth 20000 in
theorem tt491 : Cond.code ⟨"LayeredBits$TakenNumber", "makeDouble", "()V"⟩ prog_8_method_5_code 3 none ∈ TT := TT_in 491 rfl rfl
set_option maxRecDepth 20000 in
theorem tt492 : Cond.methodLink "LayeredBits$LayerStack" 58 ⟨"LayeredBits$LayerStack", "paintPlain", "(II)V"⟩ ∈ TT := TT_in 492 rfl rfl
set_option maxRecDepth 20000 in
theorem tt494 : Cond.instanceMethod ⟨"LayeredBits$LayerStack", "paintPlain", "(II)V"⟩ ∈ TT := TT_in 494 rfl rfl
set_option maxRecDepth 20000 in
theorem tt495 : Cond.code ⟨"LayeredBits$LayerStack", "paintPlain", "(II)V"⟩ prog_4_method_7_code 4 none ∈ TT := TT_in 495 rfl rfl
set_option maxRecDepth 20000 in
theorem tt496 : Cond.methodLink "LayeredBits$LayerStack" 79 ⟨"LayeredBits$Picture", "paint", "(III)V"⟩ ∈ TT := TT_in 496 rfl rfl
set_option maxRecDepth 20000 in
theorem tt497 : Cond.methodLink "LayeredBits$LayerStack" 61 ⟨"LayeredBits$LayerStack", "codePixels", "(IILLayeredBits$CodeNumber;)V"⟩ ∈ TT := TT_in 497 rfl rfl
set_option maxRecDepth 20000 in
theorem tt499 : Cond.instanceMethod ⟨"LayeredBits$LayerStack", "codePixels", "(IILLayeredBits$CodeNumber;)V"⟩ ∈ TT := TT_in 499 rfl rfl
set_option maxRecDepth 20000 in
theorem tt500 : Cond.code ⟨"LayeredBits$LayerStack", "codePixels", "(IILLayeredBits$CodeNumber;)V"⟩ prog_4_method_5_code 7 none ∈ TT := TT_in 500 rfl rfl
set_option maxRecDepth 20000 in
theorem tt501 : Cond.methodLink "LayeredBits$LayerStack" 68 ⟨"LayeredBits$LayerStack", "lowestContext", "(II)I"⟩ ∈ TT := TT_in 501 rfl rfl
set_option maxRecDepth 20000 in
theorem tt503 : Cond.instanceMethod ⟨"LayeredBits$LayerStack", "lowestContext", "(II)I"⟩ ∈ TT := TT_in 503 rfl rfl
set_option maxRecDepth 20000 in
theorem tt504 : Cond.code ⟨"LayeredBits$LayerStack", "lowestContext", "(II)I"⟩ prog_4_method_9_code 6 (some FieldType.int) ∈ TT := TT_in 504 rfl rfl
set_option maxRecDepth 20000 in
theorem tt505 : Cond.methodLink "LayeredBits$LayerStack" 72 ⟨"LayeredBits$LayerStack", "upperContext", "(III)I"⟩ ∈ TT := TT_in 505 rfl rfl
set_option maxRecDepth 20000 in
theorem tt507 : Cond.instanceMethod ⟨"LayeredBits$LayerStack", "upperContext", "(III)I"⟩ ∈ TT := TT_in 507 rfl rfl
set_option maxRecDepth 20000 in
theorem tt508 : Cond.code ⟨"LayeredBits$LayerStack", "upperContext", "(III)I"⟩ prog_4_method_10_code 10 (some FieldType.int) ∈ TT := TT_in 508 rfl rfl
set_option maxRecDepth 20000 in
theorem tt509 : Cond.methodLink "LayeredBits" 103 ⟨"LayeredBits$MadeNumber", "appendTo", "(LLayeredBits$LayeredFile;)V"⟩ ∈ TT := TT_in 509 rfl rfl
set_option maxRecDepth 20000 in
theorem tt510 : Cond.instanceMethod ⟨"LayeredBits$MadeNumber", "appendTo", "(LLayeredBits$LayeredFile;)V"⟩ ∈ TT := TT_in 510 rfl rfl
set_option maxRecDepth 20000 in
theorem tt511 : Cond.selects "LayeredBits$MadeNumber" ⟨"LayeredBits$MadeNumber", "appendTo", "(LLayeredBits$LayeredFile;)V"⟩ ⟨"LayeredBits$MadeNumber", "appendTo", "(LLayeredBits$LayeredFile;)V"⟩ ∈ TT := TT_in 511 rfl rfl
set_option maxRecDepth 20000 in
theorem tt512 : Cond.code ⟨"LayeredBits$MadeNumber", "appendTo", "(LLayeredBits$LayeredFile;)V"⟩ prog_6_method_6_code 5 none ∈ TT := TT_in 512 rfl rfl
set_option maxRecDepth 20000 in
theorem tt513 : Cond.methodLink "LayeredBits$MadeNumber" 25 ⟨"LayeredBits$MadeNumber", "byteCount", "()I"⟩ ∈ TT := TT_in 513 rfl rfl
set_option maxRecDepth 20000 in
theorem tt515 : Cond.instanceMethod ⟨"LayeredBits$MadeNumber", "byteCount", "()I"⟩ ∈ TT := TT_in 515 rfl rfl
set_option maxRecDepth 20000 in
theorem tt516 : Cond.code ⟨"LayeredBits$MadeNumber", "byteCount", "()I"⟩ prog_6_method_7_code 2 (some FieldType.int) ∈ TT := TT_in 516 rfl rfl
set_option maxRecDepth 20000 in
theorem tt517 : Cond.methodLink "LayeredBits$MadeNumber" 29 ⟨"LayeredBits$MadeNumber", "byteOfDigits", "(I)I"⟩ ∈ TT := TT_in 517 rfl rfl
set_option maxRecDepth 20000 in
theorem tt519 : Cond.instanceMethod ⟨"LayeredBits$MadeNumber", "byteOfDigits", "(I)I"⟩ ∈ TT := TT_in 519 rfl rfl
set_option maxRecDepth 20000 in
theorem tt520 : Cond.code ⟨"LayeredBits$MadeNumber", "byteOfDigits", "(I)I"⟩ prog_6_method_8_code 4 (some FieldType.int) ∈ TT := TT_in 520 rfl rfl
set_option maxRecDepth 20000 in
theorem tt521 : Cond.methodLink "LayeredBits$MadeNumber" 33 ⟨"LayeredBits$LayeredFile", "append", "(I)V"⟩ ∈ TT := TT_in 521 rfl rfl
set_option maxRecDepth 20000 in
theorem tt522 : Cond.methodLink "LayeredBitsLaw" 92 ⟨"LayeredBitsLaw", "read", "(LLayeredBits;I[J)I"⟩ ∈ TT := TT_in 522 rfl rfl
set_option maxRecDepth 20000 in
theorem tt523 : Cond.static ⟨"LayeredBitsLaw", "read", "(LLayeredBits;I[J)I"⟩ ∈ TT := TT_in 523 rfl rfl
set_option maxRecDepth 20000 in
theorem tt525 : Cond.classLink "LayeredBitsLaw" 31 "java/lang/IllegalStateException" ∈ TT := TT_in 525 rfl rfl
set_option maxRecDepth 20000 in
theorem tt526 : Cond.methodLink "LayeredBitsLaw" 28 ⟨"LayeredBits", "read", "(I)I"⟩ ∈ TT := TT_in 526 rfl rfl
set_option maxRecDepth 20000 in
theorem tt527 : Cond.instanceMethod ⟨"LayeredBits", "read", "(I)I"⟩ ∈ TT := TT_in 527 rfl rfl
set_option maxRecDepth 20000 in
theorem tt528 : Cond.selects "LayeredBits" ⟨"LayeredBits", "read", "(I)I"⟩ ⟨"LayeredBits", "read", "(I)I"⟩ ∈ TT := TT_in 528 rfl rfl
set_option maxRecDepth 20000 in
theorem tt529 : Cond.code ⟨"LayeredBits", "read", "(I)I"⟩ prog_1_method_10_code 4 (some FieldType.int) ∈ TT := TT_in 529 rfl rfl
set_option maxRecDepth 20000 in
theorem tt530 : Cond.methodLink "LayeredBits" 110 ⟨"LayeredBits$LayeredFile", "failure", "()I"⟩ ∈ TT := TT_in 530 rfl rfl
set_option maxRecDepth 20000 in
theorem tt531 : Cond.instanceMethod ⟨"LayeredBits$LayeredFile", "failure", "()I"⟩ ∈ TT := TT_in 531 rfl rfl
set_option maxRecDepth 20000 in
theorem tt532 : Cond.selects "LayeredBits$LayeredFile" ⟨"LayeredBits$LayeredFile", "failure", "()I"⟩ ⟨"LayeredBits$LayeredFile", "failure", "()I"⟩ ∈ TT := TT_in 532 rfl rfl
set_option maxRecDepth 20000 in
theorem tt533 : Cond.code ⟨"LayeredBits$LayeredFile", "failure", "()I"⟩ prog_5_method_7_code 2 (some FieldType.int) ∈ TT := TT_in 533 rfl rfl
set_option maxRecDepth 20000 in
theorem tt534 : Cond.methodLink "LayeredBits$LayeredFile" 41 ⟨"LayeredBits$LayeredFile", "passHead", "()Z"⟩ ∈ TT := TT_in 534 rfl rfl
set_option maxRecDepth 20000 in
theorem tt536 : Cond.instanceMethod ⟨"LayeredBits$LayeredFile", "passHead", "()Z"⟩ ∈ TT := TT_in 536 rfl rfl
set_option maxRecDepth 20000 in
theorem tt537 : Cond.code ⟨"LayeredBits$LayeredFile", "passHead", "()Z"⟩ prog_5_method_8_code 2 (some FieldType.boolean) ∈ TT := TT_in 537 rfl rfl
set_option maxRecDepth 20000 in
theorem tt538 : Cond.methodLink "LayeredBits$LayeredFile" 48 ⟨"LayeredBits$LayeredFile", "passByte", "(II)Z"⟩ ∈ TT := TT_in 538 rfl rfl
set_option maxRecDepth 20000 in
theorem tt540 : Cond.instanceMethod ⟨"LayeredBits$LayeredFile", "passByte", "(II)Z"⟩ ∈ TT := TT_in 540 rfl rfl
set_option maxRecDepth 20000 in
theorem tt541 : Cond.code ⟨"LayeredBits$LayeredFile", "passByte", "(II)Z"⟩ prog_5_method_9_code 3 (some FieldType.boolean) ∈ TT := TT_in 541 rfl rfl
set_option maxRecDepth 20000 in
theorem tt542 : Cond.methodLink "LayeredBits$LayeredFile" 37 ⟨"LayeredBits$LayeredFile", "has", "(I)Z"⟩ ∈ TT := TT_in 542 rfl rfl
set_option maxRecDepth 20000 in
theorem tt543 : Cond.instanceMethod ⟨"LayeredBits$LayeredFile", "has", "(I)Z"⟩ ∈ TT := TT_in 543 rfl rfl
set_option maxRecDepth 20000 in
theorem tt544 : Cond.selects "LayeredBits$LayeredFile" ⟨"LayeredBits$LayeredFile", "has", "(I)Z"⟩ ⟨"LayeredBits$LayeredFile", "has", "(I)Z"⟩ ∈ TT := TT_in 544 rfl rfl
set_option maxRecDepth 20000 in
theorem tt545 : Cond.code ⟨"LayeredBits$LayeredFile", "has", "(I)Z"⟩ prog_5_method_2_code 2 (some FieldType.boolean) ∈ TT := TT_in 545 rfl rfl
set_option maxRecDepth 20000 in
theorem tt546 : Cond.methodLink "LayeredBits$LayeredFile" 52 ⟨"LayeredBits$LayeredFile", "at", "(I)I"⟩ ∈ TT := TT_in 546 rfl rfl
set_option maxRecDepth 20000 in
theorem tt547 : Cond.instanceMethod ⟨"LayeredBits$LayeredFile", "at", "(I)I"⟩ ∈ TT := TT_in 547 rfl rfl
set_option maxRecDepth 20000 in
theorem tt548 : Cond.selects "LayeredBits$LayeredFile" ⟨"LayeredBits$LayeredFile", "at", "(I)I"⟩ ⟨"LayeredBits$LayeredFile", "at", "(I)I"⟩ ∈ TT := TT_in 548 rfl rfl
set_option maxRecDepth 20000 in
theorem tt549 : Cond.code ⟨"LayeredBits$LayeredFile", "at", "(I)I"⟩ prog_5_method_3_code 2 (some FieldType.int) ∈ TT := TT_in 549 rfl rfl
set_option maxRecDepth 20000 in
theorem tt550 : Cond.methodLink "LayeredBits$LayeredFile" 45 ⟨"LayeredBits$LayeredFile", "passLayer", "(I)Z"⟩ ∈ TT := TT_in 550 rfl rfl
set_option maxRecDepth 20000 in
theorem tt552 : Cond.instanceMethod ⟨"LayeredBits$LayeredFile", "passLayer", "(I)Z"⟩ ∈ TT := TT_in 552 rfl rfl
set_option maxRecDepth 20000 in
theorem tt553 : Cond.code ⟨"LayeredBits$LayeredFile", "passLayer", "(I)Z"⟩ prog_5_method_10_code 4 (some FieldType.boolean) ∈ TT := TT_in 553 rfl rfl
set_option maxRecDepth 20000 in
theorem tt554 : Cond.methodLink "LayeredBits$LayeredFile" 56 ⟨"LayeredBits$LayeredFile", "passAllRemarks", "()Z"⟩ ∈ TT := TT_in 554 rfl rfl
set_option maxRecDepth 20000 in
theorem tt556 : Cond.instanceMethod ⟨"LayeredBits$LayeredFile", "passAllRemarks", "()Z"⟩ ∈ TT := TT_in 556 rfl rfl
set_option maxRecDepth 20000 in
theorem tt557 : Cond.code ⟨"LayeredBits$LayeredFile", "passAllRemarks", "()Z"⟩ prog_5_method_11_code 3 (some FieldType.boolean) ∈ TT := TT_in 557 rfl rfl
set_option maxRecDepth 20000 in
theorem tt558 : Cond.methodLink "LayeredBits$LayeredFile" 59 ⟨"LayeredBits$LayeredFile", "remarksAreNext", "()Z"⟩ ∈ TT := TT_in 558 rfl rfl
set_option maxRecDepth 20000 in
theorem tt560 : Cond.instanceMethod ⟨"LayeredBits$LayeredFile", "remarksAreNext", "()Z"⟩ ∈ TT := TT_in 560 rfl rfl
set_option maxRecDepth 20000 in
theorem tt561 : Cond.code ⟨"LayeredBits$LayeredFile", "remarksAreNext", "()Z"⟩ prog_5_method_12_code 1 (some FieldType.boolean) ∈ TT := TT_in 561 rfl rfl
set_option maxRecDepth 20000 in
theorem tt562 : Cond.methodLink "LayeredBits$LayeredFile" 62 ⟨"java/lang/Math", "min", "(II)I"⟩ ∈ TT := TT_in 562 rfl rfl
set_option maxRecDepth 20000 in
theorem tt563 : Cond.classLink "LayeredBits" 117 "java/lang/IllegalStateException" ∈ TT := TT_in 563 rfl rfl
set_option maxRecDepth 20000 in
theorem tt564 : Cond.instantiable "java/lang/IllegalStateException" 6 ∈ TT := TT_in 564 rfl rfl
set_option maxRecDepth 20000 in
theorem tt566 : Cond.selects "java/lang/IllegalStateException" ⟨"java/lang/Throwable", "fillInStackTrace", "(I)Ljava/lang/Throwable;"⟩ ⟨"java/lang/Throwable", "fillInStackTrace", "(I)Ljava/lang/Throwable;"⟩ ∈ TT := TT_in 566 rfl rfl
set_option maxRecDepth 20000 in
theorem tt572 : Cond.methodLink "LayeredBits" 119 ⟨"java/lang/IllegalStateException", "<init>", "()V"⟩ ∈ TT := TT_in 572 rfl rfl
set_option maxRecDepth 20000 in
theorem tt573 : Cond.instanceMethod ⟨"java/lang/IllegalStateException", "<init>", "()V"⟩ ∈ TT := TT_in 573 rfl rfl
set_option maxRecDepth 20000 in
theorem tt574 : Cond.code ⟨"java/lang/IllegalStateException", "<init>", "()V"⟩ prog_13_method_1_code 1 none ∈ TT := TT_in 574 rfl rfl
set_option maxRecDepth 20000 in
theorem tt575 : Cond.methodLink "java/lang/IllegalStateException" 1 ⟨"java/lang/RuntimeException", "<init>", "()V"⟩ ∈ TT := TT_in 575 rfl rfl
set_option maxRecDepth 20000 in
theorem tt578 : Cond.methodLink "LayeredBits" 122 ⟨"LayeredBits$LayerStack", "blank", "(III)V"⟩ ∈ TT := TT_in 578 rfl rfl
set_option maxRecDepth 20000 in
theorem tt579 : Cond.instanceMethod ⟨"LayeredBits$LayerStack", "blank", "(III)V"⟩ ∈ TT := TT_in 579 rfl rfl
set_option maxRecDepth 20000 in
theorem tt580 : Cond.selects "LayeredBits$LayerStack" ⟨"LayeredBits$LayerStack", "blank", "(III)V"⟩ ⟨"LayeredBits$LayerStack", "blank", "(III)V"⟩ ∈ TT := TT_in 580 rfl rfl
set_option maxRecDepth 20000 in
theorem tt581 : Cond.code ⟨"LayeredBits$LayerStack", "blank", "(III)V"⟩ prog_4_method_3_code 7 none ∈ TT := TT_in 581 rfl rfl
set_option maxRecDepth 20000 in
theorem tt582 : Cond.methodLink "LayeredBits$LayerStack" 36 ⟨"LayeredBits$Picture", "blank", "(II)V"⟩ ∈ TT := TT_in 582 rfl rfl
set_option maxRecDepth 20000 in
theorem nn583 : Cond.methodLinkNest "LayeredBits$LayerStack" 40 ⟨"LayeredBits", "halfSide", "(I)I"⟩ "LayeredBits" ∈ NW := NW_in 583 rfl rfl
set_option maxRecDepth 20000 in
theorem tt584 : Cond.methodLink "LayeredBits" 124 ⟨"LayeredBits$TakenNumber", "begin", "(LLayeredBits$LayeredFile;I)V"⟩ ∈ TT := TT_in 584 rfl rfl
set_option maxRecDepth 20000 in
theorem tt585 : Cond.instanceMethod ⟨"LayeredBits$TakenNumber", "begin", "(LLayeredBits$LayeredFile;I)V"⟩ ∈ TT := TT_in 585 rfl rfl
set_option maxRecDepth 20000 in
theorem tt586 : Cond.selects "LayeredBits$TakenNumber" ⟨"LayeredBits$TakenNumber", "begin", "(LLayeredBits$LayeredFile;I)V"⟩ ⟨"LayeredBits$TakenNumber", "begin", "(LLayeredBits$LayeredFile;I)V"⟩ ∈ TT := TT_in 586 rfl rfl
set_option maxRecDepth 20000 in
theorem tt587 : Cond.code ⟨"LayeredBits$TakenNumber", "begin", "(LLayeredBits$LayeredFile;I)V"⟩ prog_8_method_2_code 5 none ∈ TT := TT_in 587 rfl rfl
set_option maxRecDepth 20000 in
theorem tt588 : Cond.methodLink "LayeredBits$TakenNumber" 33 ⟨"LayeredBits$LayeredFile", "at", "(I)I"⟩ ∈ TT := TT_in 588 rfl rfl
set_option maxRecDepth 20000 in
theorem tt589 : Cond.methodLink "LayeredBits$TakenNumber" 37 ⟨"LayeredBits$TakenNumber", "makeDouble", "()V"⟩ ∈ TT := TT_in 589 rfl rfl
set_option maxRecDepth 20000 in
theorem tt590 : Cond.methodLink "LayeredBitsLaw" 95 ⟨"LayeredBitsLaw", "told", "(LLayeredBits;I[J)I"⟩ ∈ TT := TT_in 590 rfl rfl
set_option maxRecDepth 20000 in
theorem tt591 : Cond.static ⟨"LayeredBitsLaw", "told", "(LLayeredBits;I[J)I"⟩ ∈ TT := TT_in 591 rfl rfl
set_option maxRecDepth 20000 in
theorem tt593 : Cond.methodLink "LayeredBitsLaw" 33 ⟨"LayeredBits", "told", "(I)I"⟩ ∈ TT := TT_in 593 rfl rfl
set_option maxRecDepth 20000 in
theorem tt594 : Cond.instanceMethod ⟨"LayeredBits", "told", "(I)I"⟩ ∈ TT := TT_in 594 rfl rfl
set_option maxRecDepth 20000 in
theorem tt595 : Cond.selects "LayeredBits" ⟨"LayeredBits", "told", "(I)I"⟩ ⟨"LayeredBits", "told", "(I)I"⟩ ∈ TT := TT_in 595 rfl rfl
set_option maxRecDepth 20000 in
theorem tt596 : Cond.code ⟨"LayeredBits", "told", "(I)I"⟩ prog_1_method_11_code 2 (some FieldType.int) ∈ TT := TT_in 596 rfl rfl
set_option maxRecDepth 20000 in
theorem tt597 : Cond.methodLink "LayeredBitsLaw" 102 ⟨"LayeredBitsLaw", "byteAt", "(LLayeredBits;I[J)I"⟩ ∈ TT := TT_in 597 rfl rfl
set_option maxRecDepth 20000 in
theorem tt598 : Cond.static ⟨"LayeredBitsLaw", "byteAt", "(LLayeredBits;I[J)I"⟩ ∈ TT := TT_in 598 rfl rfl
set_option maxRecDepth 20000 in
theorem tt600 : Cond.methodLink "LayeredBitsLaw" 36 ⟨"LayeredBits", "byteAt", "(I)I"⟩ ∈ TT := TT_in 600 rfl rfl
set_option maxRecDepth 20000 in
theorem tt601 : Cond.instanceMethod ⟨"LayeredBits", "byteAt", "(I)I"⟩ ∈ TT := TT_in 601 rfl rfl
set_option maxRecDepth 20000 in
theorem tt602 : Cond.selects "LayeredBits" ⟨"LayeredBits", "byteAt", "(I)I"⟩ ⟨"LayeredBits", "byteAt", "(I)I"⟩ ∈ TT := TT_in 602 rfl rfl
set_option maxRecDepth 20000 in
theorem tt603 : Cond.code ⟨"LayeredBits", "byteAt", "(I)I"⟩ prog_1_method_13_code 2 (some FieldType.int) ∈ TT := TT_in 603 rfl rfl
set_option maxRecDepth 20000 in
theorem tt604 : Cond.methodLink "LayeredBits" 142 ⟨"LayeredBits$LayeredFile", "has", "(I)Z"⟩ ∈ TT := TT_in 604 rfl rfl
set_option maxRecDepth 20000 in
theorem tt605 : Cond.methodLink "LayeredBits" 146 ⟨"LayeredBits$LayeredFile", "at", "(I)I"⟩ ∈ TT := TT_in 605 rfl rfl
set_option maxRecDepth 20000 in
theorem tt606 : Cond.methodLink "LayeredBitsLaw" 105 ⟨"LayeredBitsLaw", "poke", "(LLayeredBits;II)I"⟩ ∈ TT := TT_in 606 rfl rfl
set_option maxRecDepth 20000 in
theorem tt607 : Cond.static ⟨"LayeredBitsLaw", "poke", "(LLayeredBits;II)I"⟩ ∈ TT := TT_in 607 rfl rfl
set_option maxRecDepth 20000 in
theorem tt609 : Cond.methodLink "LayeredBitsLaw" 39 ⟨"LayeredBits", "poke", "(II)V"⟩ ∈ TT := TT_in 609 rfl rfl
set_option maxRecDepth 20000 in
theorem tt610 : Cond.instanceMethod ⟨"LayeredBits", "poke", "(II)V"⟩ ∈ TT := TT_in 610 rfl rfl
set_option maxRecDepth 20000 in
theorem tt611 : Cond.selects "LayeredBits" ⟨"LayeredBits", "poke", "(II)V"⟩ ⟨"LayeredBits", "poke", "(II)V"⟩ ∈ TT := TT_in 611 rfl rfl
set_option maxRecDepth 20000 in
theorem tt612 : Cond.code ⟨"LayeredBits", "poke", "(II)V"⟩ prog_1_method_14_code 3 none ∈ TT := TT_in 612 rfl rfl
set_option maxRecDepth 20000 in
theorem tt613 : Cond.methodLink "LayeredBits" 150 ⟨"LayeredBits$LayeredFile", "change", "(II)V"⟩ ∈ TT := TT_in 613 rfl rfl
set_option maxRecDepth 20000 in
theorem tt614 : Cond.instanceMethod ⟨"LayeredBits$LayeredFile", "change", "(II)V"⟩ ∈ TT := TT_in 614 rfl rfl
set_option maxRecDepth 20000 in
theorem tt615 : Cond.selects "LayeredBits$LayeredFile" ⟨"LayeredBits$LayeredFile", "change", "(II)V"⟩ ⟨"LayeredBits$LayeredFile", "change", "(II)V"⟩ ∈ TT := TT_in 615 rfl rfl
set_option maxRecDepth 20000 in
theorem tt616 : Cond.code ⟨"LayeredBits$LayeredFile", "change", "(II)V"⟩ prog_5_method_4_code 3 none ∈ TT := TT_in 616 rfl rfl
set_option maxRecDepth 20000 in
theorem tt617 : Cond.methodLink "LayeredBitsLaw" 110 ⟨"LayeredBitsLaw", "type", "(LLayeredBits;JI[J)I"⟩ ∈ TT := TT_in 617 rfl rfl
set_option maxRecDepth 20000 in
theorem tt618 : Cond.static ⟨"LayeredBitsLaw", "type", "(LLayeredBits;JI[J)I"⟩ ∈ TT := TT_in 618 rfl rfl
set_option maxRecDepth 20000 in
theorem tt620 : Cond.methodLink "LayeredBitsLaw" 42 ⟨"LayeredBits", "type", "(JI)I"⟩ ∈ TT := TT_in 620 rfl rfl
set_option maxRecDepth 20000 in
theorem tt621 : Cond.instanceMethod ⟨"LayeredBits", "type", "(JI)I"⟩ ∈ TT := TT_in 621 rfl rfl
set_option maxRecDepth 20000 in
theorem tt622 : Cond.selects "LayeredBits" ⟨"LayeredBits", "type", "(JI)I"⟩ ⟨"LayeredBits", "type", "(JI)I"⟩ ∈ TT := TT_in 622 rfl rfl
set_option maxRecDepth 20000 in
theorem tt623 : Cond.code ⟨"LayeredBits", "type", "(JI)I"⟩ prog_1_method_15_code 5 (some FieldType.int) ∈ TT := TT_in 623 rfl rfl
set_option maxRecDepth 20000 in
theorem tt624 : Cond.methodLink "LayeredBitsLaw" 114 ⟨"LayeredBitsLaw", "cut", "(LLayeredBits;I)I"⟩ ∈ TT := TT_in 624 rfl rfl
set_option maxRecDepth 20000 in
theorem tt625 : Cond.static ⟨"LayeredBitsLaw", "cut", "(LLayeredBits;I)I"⟩ ∈ TT := TT_in 625 rfl rfl
set_option maxRecDepth 20000 in
theorem tt627 : Cond.methodLink "LayeredBitsLaw" 46 ⟨"LayeredBits", "cut", "(I)V"⟩ ∈ TT := TT_in 627 rfl rfl
set_option maxRecDepth 20000 in
theorem tt628 : Cond.instanceMethod ⟨"LayeredBits", "cut", "(I)V"⟩ ∈ TT := TT_in 628 rfl rfl
set_option maxRecDepth 20000 in
theorem tt629 : Cond.selects "LayeredBits" ⟨"LayeredBits", "cut", "(I)V"⟩ ⟨"LayeredBits", "cut", "(I)V"⟩ ∈ TT := TT_in 629 rfl rfl
set_option maxRecDepth 20000 in
theorem tt630 : Cond.code ⟨"LayeredBits", "cut", "(I)V"⟩ prog_1_method_16_code 2 none ∈ TT := TT_in 630 rfl rfl
set_option maxRecDepth 20000 in
theorem tt631 : Cond.classLink "LayeredBitsLaw" 51 "LayeredBitsModel" ∈ TT := TT_in 631 rfl rfl
set_option maxRecDepth 20000 in
theorem tt632 : Cond.instantiable "LayeredBitsModel" 34 ∈ TT := TT_in 632 rfl rfl
set_option maxRecDepth 20000 in
theorem tt633 : Cond.methodLink "LayeredBitsLaw" 53 ⟨"LayeredBitsModel", "<init>", "()V"⟩ ∈ TT := TT_in 633 rfl rfl
set_option maxRecDepth 20000 in
theorem tt634 : Cond.instanceMethod ⟨"LayeredBitsModel", "<init>", "()V"⟩ ∈ TT := TT_in 634 rfl rfl
set_option maxRecDepth 20000 in
theorem tt635 : Cond.code ⟨"LayeredBitsModel", "<init>", "()V"⟩ prog_10_method_1_code 1 none ∈ TT := TT_in 635 rfl rfl
set_option maxRecDepth 20000 in
theorem tt636 : Cond.methodLink "LayeredBitsModel" 1 ⟨"java/lang/Object", "<init>", "()V"⟩ ∈ TT := TT_in 636 rfl rfl
set_option maxRecDepth 20000 in
theorem tt637 : Cond.fieldLink "LayeredBitsModel" 56 "LayeredBitsModel" "code" "I" ∈ TT := TT_in 637 rfl rfl
set_option maxRecDepth 20000 in
theorem tt638 : Cond.fieldLink "LayeredBitsModel" 7 "LayeredBitsModel" "width" "I" ∈ TT := TT_in 638 rfl rfl
set_option maxRecDepth 20000 in
theorem tt639 : Cond.fieldLink "LayeredBitsModel" 13 "LayeredBitsModel" "height" "I" ∈ TT := TT_in 639 rfl rfl
set_option maxRecDepth 20000 in
theorem tt640 : Cond.fieldLink "LayeredBitsModel" 16 "LayeredBitsModel" "picture" "[I" ∈ TT := TT_in 640 rfl rfl
set_option maxRecDepth 20000 in
theorem tt641 : Cond.fieldLink "LayeredBitsModel" 178 "LayeredBitsModel" "length" "I" ∈ TT := TT_in 641 rfl rfl
set_option maxRecDepth 20000 in
theorem tt642 : Cond.fieldLink "LayeredBitsModel" 20 "LayeredBitsModel" "file" "[I" ∈ TT := TT_in 642 rfl rfl
set_option maxRecDepth 20000 in
theorem tt643 : Cond.fieldLink "LayeredBitsModel" 146 "LayeredBitsModel" "any" "Z" ∈ TT := TT_in 643 rfl rfl
set_option maxRecDepth 20000 in
theorem tt644 : Cond.fieldLink "LayeredBitsModel" 149 "LayeredBitsModel" "decisions" "I" ∈ TT := TT_in 644 rfl rfl
set_option maxRecDepth 20000 in
theorem tt645 : Cond.fieldLink "LayeredBitsModel" 152 "LayeredBitsModel" "plains" "I" ∈ TT := TT_in 645 rfl rfl
set_option maxRecDepth 20000 in
theorem tt646 : Cond.fieldLink "LayeredBitsModel" 155 "LayeredBitsModel" "doubles" "I" ∈ TT := TT_in 646 rfl rfl
set_option maxRecDepth 20000 in
theorem tt647 : Cond.fieldLink "LayeredBitsModel" 23 "LayeredBitsModel" "layers" "[I" ∈ TT := TT_in 647 rfl rfl
set_option maxRecDepth 20000 in
theorem tt648 : Cond.fieldLink "LayeredBitsModel" 26 "LayeredBitsModel" "wide" "[I" ∈ TT := TT_in 648 rfl rfl
set_option maxRecDepth 20000 in
theorem tt649 : Cond.fieldLink "LayeredBitsModel" 29 "LayeredBitsModel" "high" "[I" ∈ TT := TT_in 649 rfl rfl
set_option maxRecDepth 20000 in
theorem tt650 : Cond.fieldLink "LayeredBitsModel" 32 "LayeredBitsModel" "half" "[I" ∈ TT := TT_in 650 rfl rfl
set_option maxRecDepth 20000 in
theorem tt651 : Cond.fieldLink "LayeredBitsModel" 35 "LayeredBitsModel" "states" "[I" ∈ TT := TT_in 651 rfl rfl
set_option maxRecDepth 20000 in
theorem tt652 : Cond.fieldLink "LayeredBitsModel" 38 "LayeredBitsModel" "favourites" "[I" ∈ TT := TT_in 652 rfl rfl
set_option maxRecDepth 20000 in
theorem tt653 : Cond.fieldLink "LayeredBitsModel" 41 "LayeredBitsModel" "quotas" "[I" ∈ TT := TT_in 653 rfl rfl
set_option maxRecDepth 20000 in
theorem tt654 : Cond.fieldLink "LayeredBitsModel" 86 "LayeredBitsModel" "span" "I" ∈ TT := TT_in 654 rfl rfl
set_option maxRecDepth 20000 in
theorem tt655 : Cond.fieldLink "LayeredBitsModel" 103 "LayeredBitsModel" "nowDecisions" "I" ∈ TT := TT_in 655 rfl rfl
set_option maxRecDepth 20000 in
theorem tt656 : Cond.fieldLink "LayeredBitsModel" 106 "LayeredBitsModel" "nowPlains" "I" ∈ TT := TT_in 656 rfl rfl
set_option maxRecDepth 20000 in
theorem tt657 : Cond.fieldLink "LayeredBitsModel" 109 "LayeredBitsModel" "nowDoubles" "I" ∈ TT := TT_in 657 rfl rfl
set_option maxRecDepth 20000 in
theorem tt658 : Cond.fieldLink "LayeredBitsModel" 44 "LayeredBitsModel" "digits" "[I" ∈ TT := TT_in 658 rfl rfl
set_option maxRecDepth 20000 in
theorem tt659 : Cond.fieldLink "LayeredBitsModel" 89 "LayeredBitsModel" "digitCount" "I" ∈ TT := TT_in 659 rfl rfl
set_option maxRecDepth 20000 in
theorem tt660 : Cond.fieldLink "LayeredBitsModel" 47 "LayeredBitsModel" "draft" "[I" ∈ TT := TT_in 660 rfl rfl
set_option maxRecDepth 20000 in
theorem tt661 : Cond.fieldLink "LayeredBitsModel" 158 "LayeredBitsModel" "draftSize" "I" ∈ TT := TT_in 661 rfl rfl
set_option maxRecDepth 20000 in
theorem tt662 : Cond.fieldLink "LayeredBitsModel" 98 "LayeredBitsModel" "taking" "Z" ∈ TT := TT_in 662 rfl rfl
set_option maxRecDepth 20000 in
theorem tt663 : Cond.fieldLink "LayeredBitsModel" 50 "LayeredBitsModel" "given" "[I" ∈ TT := TT_in 663 rfl rfl
set_option maxRecDepth 20000 in
theorem tt664 : Cond.fieldLink "LayeredBitsModel" 95 "LayeredBitsModel" "givenSize" "I" ∈ TT := TT_in 664 rfl rfl
set_option maxRecDepth 20000 in
theorem tt665 : Cond.fieldLink "LayeredBitsModel" 92 "LayeredBitsModel" "next" "I" ∈ TT := TT_in 665 rfl rfl
set_option maxRecDepth 20000 in
theorem tt666 : Cond.fieldLink "LayeredBitsModel" 112 "LayeredBitsModel" "above" "I" ∈ TT := TT_in 666 rfl rfl
set_option maxRecDepth 20000 in
theorem tt667 : Cond.fieldLink "LayeredBitsModel" 53 "LayeredBitsModel" "begins" "[I" ∈ TT := TT_in 667 rfl rfl
set_option maxRecDepth 20000 in
theorem tt668 : Cond.fieldLink "LayeredBitsModel" 190 "LayeredBitsModel" "layerCount" "I" ∈ TT := TT_in 668 rfl rfl
set_option maxRecDepth 20000 in
theorem tt669 : Cond.fieldLink "LayeredBitsModel" 184 "LayeredBitsModel" "newWidth" "I" ∈ TT := TT_in 669 rfl rfl
set_option maxRecDepth 20000 in
theorem tt670 : Cond.fieldLink "LayeredBitsModel" 187 "LayeredBitsModel" "newHeight" "I" ∈ TT := TT_in 670 rfl rfl
set_option maxRecDepth 20000 in
theorem tt740 : Cond.methodLink "LayeredBitsLaw" 60 ⟨"LayeredBitsModel", "thrown", "()I"⟩ ∈ TT := TT_in 740 rfl rfl
set_option maxRecDepth 20000 in
theorem tt741 : Cond.instanceMethod ⟨"LayeredBitsModel", "thrown", "()I"⟩ ∈ TT := TT_in 741 rfl rfl
set_option maxRecDepth 20000 in
theorem tt742 : Cond.selects "LayeredBitsModel" ⟨"LayeredBitsModel", "thrown", "()I"⟩ ⟨"LayeredBitsModel", "thrown", "()I"⟩ ∈ TT := TT_in 742 rfl rfl
set_option maxRecDepth 20000 in
theorem tt743 : Cond.code ⟨"LayeredBitsModel", "thrown", "()I"⟩ prog_10_method_2_code 1 (some FieldType.int) ∈ TT := TT_in 743 rfl rfl
set_option maxRecDepth 20000 in
theorem tt744 : Cond.methodLink "LayeredBitsLaw" 59 ⟨"LayeredBitsModel", "clear", "(II)V"⟩ ∈ TT := TT_in 744 rfl rfl
set_option maxRecDepth 20000 in
theorem tt745 : Cond.instanceMethod ⟨"LayeredBitsModel", "clear", "(II)V"⟩ ∈ TT := TT_in 745 rfl rfl
set_option maxRecDepth 20000 in
theorem tt746 : Cond.selects "LayeredBitsModel" ⟨"LayeredBitsModel", "clear", "(II)V"⟩ ⟨"LayeredBitsModel", "clear", "(II)V"⟩ ∈ TT := TT_in 746 rfl rfl
set_option maxRecDepth 20000 in
theorem tt747 : Cond.code ⟨"LayeredBitsModel", "clear", "(II)V"⟩ prog_10_method_4_code 4 none ∈ TT := TT_in 747 rfl rfl
set_option maxRecDepth 20000 in
theorem tt748 : Cond.methodLink "LayeredBitsModel" 59 ⟨"LayeredBitsModel", "within", "(III)Z"⟩ ∈ TT := TT_in 748 rfl rfl
set_option maxRecDepth 20000 in
theorem tt749 : Cond.static ⟨"LayeredBitsModel", "within", "(III)Z"⟩ ∈ TT := TT_in 749 rfl rfl
set_option maxRecDepth 20000 in
theorem tt750 : Cond.code ⟨"LayeredBitsModel", "within", "(III)Z"⟩ prog_10_method_3_code 3 (some FieldType.boolean) ∈ TT := TT_in 750 rfl rfl
set_option maxRecDepth 20000 in
theorem tt751 : Cond.methodLink "LayeredBitsLaw" 67 ⟨"LayeredBitsModel", "set", "(III)I"⟩ ∈ TT := TT_in 751 rfl rfl
set_option maxRecDepth 20000 in
theorem tt752 : Cond.instanceMethod ⟨"LayeredBitsModel", "set", "(III)I"⟩ ∈ TT := TT_in 752 rfl rfl
set_option maxRecDepth 20000 in
theorem tt753 : Cond.selects "LayeredBitsModel" ⟨"LayeredBitsModel", "set", "(III)I"⟩ ⟨"LayeredBitsModel", "set", "(III)I"⟩ ∈ TT := TT_in 753 rfl rfl
set_option maxRecDepth 20000 in
theorem tt754 : Cond.code ⟨"LayeredBitsModel", "set", "(III)I"⟩ prog_10_method_6_code 5 (some FieldType.int) ∈ TT := TT_in 754 rfl rfl
set_option maxRecDepth 20000 in
theorem tt755 : Cond.methodLink "LayeredBitsModel" 63 ⟨"LayeredBitsModel", "isPlace", "(II)Z"⟩ ∈ TT := TT_in 755 rfl rfl
set_option maxRecDepth 20000 in
theorem tt757 : Cond.instanceMethod ⟨"LayeredBitsModel", "isPlace", "(II)Z"⟩ ∈ TT := TT_in 757 rfl rfl
set_option maxRecDepth 20000 in
theorem tt758 : Cond.code ⟨"LayeredBitsModel", "isPlace", "(II)Z"⟩ prog_10_method_5_code 3 (some FieldType.boolean) ∈ TT := TT_in 758 rfl rfl
set_option maxRecDepth 20000 in
theorem tt759 : Cond.methodLink "LayeredBitsLaw" 70 ⟨"LayeredBitsModel", "row", "(II)V"⟩ ∈ TT := TT_in 759 rfl rfl
set_option maxRecDepth 20000 in
theorem tt760 : Cond.instanceMethod ⟨"LayeredBitsModel", "row", "(II)V"⟩ ∈ TT := TT_in 760 rfl rfl
set_option maxRecDepth 20000 in
theorem tt761 : Cond.selects "LayeredBitsModel" ⟨"LayeredBitsModel", "row", "(II)V"⟩ ⟨"LayeredBitsModel", "row", "(II)V"⟩ ∈ TT := TT_in 761 rfl rfl
set_option maxRecDepth 20000 in
theorem tt762 : Cond.code ⟨"LayeredBitsModel", "row", "(II)V"⟩ prog_10_method_7_code 4 none ∈ TT := TT_in 762 rfl rfl
set_option maxRecDepth 20000 in
theorem tt763 : Cond.methodLink "LayeredBitsLaw" 75 ⟨"LayeredBitsModel", "get", "(II)I"⟩ ∈ TT := TT_in 763 rfl rfl
set_option maxRecDepth 20000 in
theorem tt764 : Cond.instanceMethod ⟨"LayeredBitsModel", "get", "(II)I"⟩ ∈ TT := TT_in 764 rfl rfl
set_option maxRecDepth 20000 in
theorem tt765 : Cond.selects "LayeredBitsModel" ⟨"LayeredBitsModel", "get", "(II)I"⟩ ⟨"LayeredBitsModel", "get", "(II)I"⟩ ∈ TT := TT_in 765 rfl rfl
set_option maxRecDepth 20000 in
theorem tt766 : Cond.code ⟨"LayeredBitsModel", "get", "(II)I"⟩ prog_10_method_8_code 3 (some FieldType.int) ∈ TT := TT_in 766 rfl rfl
set_option maxRecDepth 20000 in
theorem tt767 : Cond.methodLink "LayeredBitsLaw" 79 ⟨"LayeredBitsModel", "width", "()I"⟩ ∈ TT := TT_in 767 rfl rfl
set_option maxRecDepth 20000 in
theorem tt768 : Cond.instanceMethod ⟨"LayeredBitsModel", "width", "()I"⟩ ∈ TT := TT_in 768 rfl rfl
set_option maxRecDepth 20000 in
theorem tt769 : Cond.selects "LayeredBitsModel" ⟨"LayeredBitsModel", "width", "()I"⟩ ⟨"LayeredBitsModel", "width", "()I"⟩ ∈ TT := TT_in 769 rfl rfl
set_option maxRecDepth 20000 in
theorem tt770 : Cond.code ⟨"LayeredBitsModel", "width", "()I"⟩ prog_10_method_9_code 1 (some FieldType.int) ∈ TT := TT_in 770 rfl rfl
set_option maxRecDepth 20000 in
theorem tt771 : Cond.methodLink "LayeredBitsLaw" 83 ⟨"LayeredBitsModel", "height", "()I"⟩ ∈ TT := TT_in 771 rfl rfl
set_option maxRecDepth 20000 in
theorem tt772 : Cond.instanceMethod ⟨"LayeredBitsModel", "height", "()I"⟩ ∈ TT := TT_in 772 rfl rfl
set_option maxRecDepth 20000 in
theorem tt773 : Cond.selects "LayeredBitsModel" ⟨"LayeredBitsModel", "height", "()I"⟩ ⟨"LayeredBitsModel", "height", "()I"⟩ ∈ TT := TT_in 773 rfl rfl
set_option maxRecDepth 20000 in
theorem tt774 : Cond.code ⟨"LayeredBitsModel", "height", "()I"⟩ prog_10_method_10_code 1 (some FieldType.int) ∈ TT := TT_in 774 rfl rfl
set_option maxRecDepth 20000 in
theorem tt775 : Cond.methodLink "LayeredBitsLaw" 87 ⟨"LayeredBitsModel", "halve", "()V"⟩ ∈ TT := TT_in 775 rfl rfl
set_option maxRecDepth 20000 in
theorem tt776 : Cond.instanceMethod ⟨"LayeredBitsModel", "halve", "()V"⟩ ∈ TT := TT_in 776 rfl rfl
set_option maxRecDepth 20000 in
theorem tt777 : Cond.selects "LayeredBitsModel" ⟨"LayeredBitsModel", "halve", "()V"⟩ ⟨"LayeredBitsModel", "halve", "()V"⟩ ∈ TT := TT_in 777 rfl rfl
set_option maxRecDepth 20000 in
theorem tt778 : Cond.code ⟨"LayeredBitsModel", "halve", "()V"⟩ prog_10_method_16_code 2 none ∈ TT := TT_in 778 rfl rfl
set_option maxRecDepth 20000 in
theorem tt779 : Cond.methodLink "LayeredBitsModel" 79 ⟨"LayeredBitsModel", "takePicture", "(I)V"⟩ ∈ TT := TT_in 779 rfl rfl
set_option maxRecDepth 20000 in
theorem tt781 : Cond.instanceMethod ⟨"LayeredBitsModel", "takePicture", "(I)V"⟩ ∈ TT := TT_in 781 rfl rfl
set_option maxRecDepth 20000 in
theorem tt782 : Cond.code ⟨"LayeredBitsModel", "takePicture", "(I)V"⟩ prog_10_method_15_code 3 none ∈ TT := TT_in 782 rfl rfl
set_option maxRecDepth 20000 in
theorem tt783 : Cond.methodLink "LayeredBitsModel" 75 ⟨"LayeredBitsModel", "become", "(III)V"⟩ ∈ TT := TT_in 783 rfl rfl
set_option maxRecDepth 20000 in
theorem tt785 : Cond.instanceMethod ⟨"LayeredBitsModel", "become", "(III)V"⟩ ∈ TT := TT_in 785 rfl rfl
set_option maxRecDepth 20000 in
theorem tt786 : Cond.code ⟨"LayeredBitsModel", "become", "(III)V"⟩ prog_10_method_14_code 4 none ∈ TT := TT_in 786 rfl rfl
set_option maxRecDepth 20000 in
theorem tt787 : Cond.methodLink "LayeredBitsModel" 83 ⟨"LayeredBitsModel", "reduce", "(I)V"⟩ ∈ TT := TT_in 787 rfl rfl
set_option maxRecDepth 20000 in
theorem tt789 : Cond.instanceMethod ⟨"LayeredBitsModel", "reduce", "(I)V"⟩ ∈ TT := TT_in 789 rfl rfl
set_option maxRecDepth 20000 in
theorem tt790 : Cond.code ⟨"LayeredBitsModel", "reduce", "(I)V"⟩ prog_10_method_13_code 5 none ∈ TT := TT_in 790 rfl rfl
set_option maxRecDepth 20000 in
theorem tt791 : Cond.methodLink "LayeredBitsModel" 71 ⟨"LayeredBitsModel", "reduced", "(IIII)I"⟩ ∈ TT := TT_in 791 rfl rfl
set_option maxRecDepth 20000 in
theorem tt793 : Cond.instanceMethod ⟨"LayeredBitsModel", "reduced", "(IIII)I"⟩ ∈ TT := TT_in 793 rfl rfl
set_option maxRecDepth 20000 in
theorem tt794 : Cond.code ⟨"LayeredBitsModel", "reduced", "(IIII)I"⟩ prog_10_method_12_code 9 (some FieldType.int) ∈ TT := TT_in 794 rfl rfl
set_option maxRecDepth 20000 in
theorem tt795 : Cond.methodLink "LayeredBitsModel" 67 ⟨"LayeredBitsModel", "at", "(III)I"⟩ ∈ TT := TT_in 795 rfl rfl
set_option maxRecDepth 20000 in
theorem tt797 : Cond.instanceMethod ⟨"LayeredBitsModel", "at", "(III)I"⟩ ∈ TT := TT_in 797 rfl rfl
set_option maxRecDepth 20000 in
theorem tt798 : Cond.code ⟨"LayeredBitsModel", "at", "(III)I"⟩ prog_10_method_11_code 4 (some FieldType.int) ∈ TT := TT_in 798 rfl rfl
set_option maxRecDepth 20000 in
theorem tt799 : Cond.methodLink "LayeredBitsLaw" 91 ⟨"LayeredBitsModel", "write", "(I)I"⟩ ∈ TT := TT_in 799 rfl rfl
set_option maxRecDepth 20000 in
theorem tt800 : Cond.instanceMethod ⟨"LayeredBitsModel", "write", "(I)I"⟩ ∈ TT := TT_in 800 rfl rfl
set_option maxRecDepth 20000 in
theorem tt801 : Cond.selects "LayeredBitsModel" ⟨"LayeredBitsModel", "write", "(I)I"⟩ ⟨"LayeredBitsModel", "write", "(I)I"⟩ ∈ TT := TT_in 801 rfl rfl
set_option maxRecDepth 20000 in
theorem tt802 : Cond.code ⟨"LayeredBitsModel", "write", "(I)I"⟩ prog_10_method_31_code 4 (some FieldType.int) ∈ TT := TT_in 802 rfl rfl
set_option maxRecDepth 20000 in
theorem tt803 : Cond.methodLink "LayeredBitsModel" 165 ⟨"LayeredBitsModel", "put", "(I)V"⟩ ∈ TT := TT_in 803 rfl rfl
set_option maxRecDepth 20000 in
theorem tt805 : Cond.instanceMethod ⟨"LayeredBitsModel", "put", "(I)V"⟩ ∈ TT := TT_in 805 rfl rfl
set_option maxRecDepth 20000 in
theorem tt806 : Cond.code ⟨"LayeredBitsModel", "put", "(I)V"⟩ prog_10_method_28_code 2 none ∈ TT := TT_in 806 rfl rfl
set_option maxRecDepth 20000 in
theorem tt807 : Cond.methodLink "LayeredBitsModel" 168 ⟨"LayeredBitsModel", "codeLayer", "(IZ)V"⟩ ∈ TT := TT_in 807 rfl rfl
set_option maxRecDepth 20000 in
theorem tt809 : Cond.instanceMethod ⟨"LayeredBitsModel", "codeLayer", "(IZ)V"⟩ ∈ TT := TT_in 809 rfl rfl
set_option maxRecDepth 20000 in
theorem tt810 : Cond.code ⟨"LayeredBitsModel", "codeLayer", "(IZ)V"⟩ prog_10_method_26_code 7 none ∈ TT := TT_in 810 rfl rfl
set_option maxRecDepth 20000 in
theorem tt811 : Cond.methodLink "LayeredBitsModel" 132 ⟨"LayeredBitsModel", "begin", "(Z)V"⟩ ∈ TT := TT_in 811 rfl rfl
set_option maxRecDepth 20000 in
theorem tt813 : Cond.instanceMethod ⟨"LayeredBitsModel", "begin", "(Z)V"⟩ ∈ TT := TT_in 813 rfl rfl
set_option maxRecDepth 20000 in
theorem tt814 : Cond.code ⟨"LayeredBitsModel", "begin", "(Z)V"⟩ prog_10_method_19_code 3 none ∈ TT := TT_in 814 rfl rfl
set_option maxRecDepth 20000 in
theorem tt815 : Cond.constant "LayeredBitsModel" 102 (65536 : Int32) ∈ TT := TT_in 815 rfl rfl
set_option maxRecDepth 20000 in
theorem tt816 : Cond.methodLink "LayeredBitsModel" 115 ⟨"LayeredBitsModel", "nextDigit", "()I"⟩ ∈ TT := TT_in 816 rfl rfl
set_option maxRecDepth 20000 in
theorem tt818 : Cond.instanceMethod ⟨"LayeredBitsModel", "nextDigit", "()I"⟩ ∈ TT := TT_in 818 rfl rfl
set_option maxRecDepth 20000 in
theorem tt819 : Cond.code ⟨"LayeredBitsModel", "nextDigit", "()I"⟩ prog_10_method_18_code 2 (some FieldType.int) ∈ TT := TT_in 819 rfl rfl
set_option maxRecDepth 20000 in
theorem tt820 : Cond.methodLink "LayeredBitsModel" 136 ⟨"LayeredBitsModel", "isPlain", "(II)Z"⟩ ∈ TT := TT_in 820 rfl rfl
set_option maxRecDepth 20000 in
theorem tt822 : Cond.instanceMethod ⟨"LayeredBitsModel", "isPlain", "(II)Z"⟩ ∈ TT := TT_in 822 rfl rfl
set_option maxRecDepth 20000 in
theorem tt823 : Cond.code ⟨"LayeredBitsModel", "isPlain", "(II)Z"⟩ prog_10_method_25_code 5 (some FieldType.boolean) ∈ TT := TT_in 823 rfl rfl
set_option maxRecDepth 20000 in
theorem tt824 : Cond.methodLink "LayeredBitsModel" 129 ⟨"LayeredBitsModel", "plainAt", "(III)I"⟩ ∈ TT := TT_in 824 rfl rfl
set_option maxRecDepth 20000 in
theorem tt826 : Cond.instanceMethod ⟨"LayeredBitsModel", "plainAt", "(III)I"⟩ ∈ TT := TT_in 826 rfl rfl
set_option maxRecDepth 20000 in
theorem tt827 : Cond.code ⟨"LayeredBitsModel", "plainAt", "(III)I"⟩ prog_10_method_24_code 4 (some FieldType.int) ∈ TT := TT_in 827 rfl rfl
set_option maxRecDepth 20000 in
theorem tt828 : Cond.methodLink "LayeredBitsModel" 139 ⟨"LayeredBitsModel", "decide", "(II)I"⟩ ∈ TT := TT_in 828 rfl rfl
set_option maxRecDepth 20000 in
theorem tt830 : Cond.instanceMethod ⟨"LayeredBitsModel", "decide", "(II)I"⟩ ∈ TT := TT_in 830 rfl rfl
set_option maxRecDepth 20000 in
theorem tt831 : Cond.code ⟨"LayeredBitsModel", "decide", "(II)I"⟩ prog_10_method_22_code 7 (some FieldType.int) ∈ TT := TT_in 831 rfl rfl
set_option maxRecDepth 20000 in
theorem tt832 : Cond.constant "LayeredBitsModel" 122 (32768 : Int32) ∈ TT := TT_in 832 rfl rfl
set_option maxRecDepth 20000 in
theorem tt833 : Cond.methodLink "LayeredBitsModel" 123 ⟨"LayeredBitsModel", "pass", "(I)V"⟩ ∈ TT := TT_in 833 rfl rfl
set_option maxRecDepth 20000 in
theorem tt835 : Cond.instanceMethod ⟨"LayeredBitsModel", "pass", "(I)V"⟩ ∈ TT := TT_in 835 rfl rfl
set_option maxRecDepth 20000 in
theorem tt836 : Cond.code ⟨"LayeredBitsModel", "pass", "(I)V"⟩ prog_10_method_20_code 2 none ∈ TT := TT_in 836 rfl rfl
set_option maxRecDepth 20000 in
theorem tt837 : Cond.methodLink "LayeredBitsModel" 119 ⟨"LayeredBitsModel", "grow", "()V"⟩ ∈ TT := TT_in 837 rfl rfl
set_option maxRecDepth 20000 in
theorem tt839 : Cond.instanceMethod ⟨"LayeredBitsModel", "grow", "()V"⟩ ∈ TT := TT_in 839 rfl rfl
set_option maxRecDepth 20000 in
theorem tt840 : Cond.code ⟨"LayeredBitsModel", "grow", "()V"⟩ prog_10_method_17_code 4 none ∈ TT := TT_in 840 rfl rfl
set_option maxRecDepth 20000 in
theorem tt841 : Cond.methodLink "LayeredBitsModel" 126 ⟨"LayeredBitsModel", "twice", "()V"⟩ ∈ TT := TT_in 841 rfl rfl
set_option maxRecDepth 20000 in
theorem tt843 : Cond.instanceMethod ⟨"LayeredBitsModel", "twice", "()V"⟩ ∈ TT := TT_in 843 rfl rfl
set_option maxRecDepth 20000 in
theorem tt844 : Cond.code ⟨"LayeredBitsModel", "twice", "()V"⟩ prog_10_method_21_code 1 none ∈ TT := TT_in 844 rfl rfl
set_option maxRecDepth 20000 in
theorem tt845 : Cond.methodLink "LayeredBitsModel" 143 ⟨"LayeredBitsModel", "contextOf", "(III)I"⟩ ∈ TT := TT_in 845 rfl rfl
set_option maxRecDepth 20000 in
theorem tt847 : Cond.instanceMethod ⟨"LayeredBitsModel", "contextOf", "(III)I"⟩ ∈ TT := TT_in 847 rfl rfl
set_option maxRecDepth 20000 in
theorem tt848 : Cond.code ⟨"LayeredBitsModel", "contextOf", "(III)I"⟩ prog_10_method_23_code 9 (some FieldType.int) ∈ TT := TT_in 848 rfl rfl
set_option maxRecDepth 20000 in
theorem tt849 : Cond.methodLink "LayeredBitsModel" 172 ⟨"LayeredBitsModel", "putLayer", "()V"⟩ ∈ TT := TT_in 849 rfl rfl
set_option maxRecDepth 20000 in
theorem tt851 : Cond.instanceMethod ⟨"LayeredBitsModel", "putLayer", "()V"⟩ ∈ TT := TT_in 851 rfl rfl
set_option maxRecDepth 20000 in
theorem tt852 : Cond.code ⟨"LayeredBitsModel", "putLayer", "()V"⟩ prog_10_method_30_code 3 none ∈ TT := TT_in 852 rfl rfl
set_option maxRecDepth 20000 in
theorem tt853 : Cond.methodLink "LayeredBitsModel" 161 ⟨"LayeredBitsModel", "byteOf", "(I)I"⟩ ∈ TT := TT_in 853 rfl rfl
set_option maxRecDepth 20000 in
theorem tt855 : Cond.instanceMethod ⟨"LayeredBitsModel", "byteOf", "(I)I"⟩ ∈ TT := TT_in 855 rfl rfl
set_option maxRecDepth 20000 in
theorem tt856 : Cond.code ⟨"LayeredBitsModel", "byteOf", "(I)I"⟩ prog_10_method_29_code 4 (some FieldType.int) ∈ TT := TT_in 856 rfl rfl
set_option maxRecDepth 20000 in
theorem tt857 : Cond.methodLink "LayeredBitsModel" 175 ⟨"LayeredBitsModel", "note", "()V"⟩ ∈ TT := TT_in 857 rfl rfl
set_option maxRecDepth 20000 in
theorem tt859 : Cond.instanceMethod ⟨"LayeredBitsModel", "note", "()V"⟩ ∈ TT := TT_in 859 rfl rfl
set_option maxRecDepth 20000 in
theorem tt860 : Cond.code ⟨"LayeredBitsModel", "note", "()V"⟩ prog_10_method_27_code 1 none ∈ TT := TT_in 860 rfl rfl
set_option maxRecDepth 20000 in
theorem tt861 : Cond.methodLink "LayeredBitsLaw" 94 ⟨"LayeredBitsModel", "read", "(I)I"⟩ ∈ TT := TT_in 861 rfl rfl
set_option maxRecDepth 20000 in
theorem tt862 : Cond.instanceMethod ⟨"LayeredBitsModel", "read", "(I)I"⟩ ∈ TT := TT_in 862 rfl rfl
set_option maxRecDepth 20000 in
theorem tt863 : Cond.selects "LayeredBitsModel" ⟨"LayeredBitsModel", "read", "(I)I"⟩ ⟨"LayeredBitsModel", "read", "(I)I"⟩ ∈ TT := TT_in 863 rfl rfl
set_option maxRecDepth 20000 in
theorem tt864 : Cond.code ⟨"LayeredBitsModel", "read", "(I)I"⟩ prog_10_method_38_code 4 (some FieldType.int) ∈ TT := TT_in 864 rfl rfl
set_option maxRecDepth 20000 in
theorem tt865 : Cond.methodLink "LayeredBitsModel" 199 ⟨"LayeredBitsModel", "look", "()I"⟩ ∈ TT := TT_in 865 rfl rfl
set_option maxRecDepth 20000 in
theorem tt867 : Cond.instanceMethod ⟨"LayeredBitsModel", "look", "()I"⟩ ∈ TT := TT_in 867 rfl rfl
set_option maxRecDepth 20000 in
theorem tt868 : Cond.code ⟨"LayeredBitsModel", "look", "()I"⟩ prog_10_method_35_code 3 (some FieldType.int) ∈ TT := TT_in 868 rfl rfl
set_option maxRecDepth 20000 in
theorem tt869 : Cond.methodLink "LayeredBitsModel" 181 ⟨"LayeredBitsModel", "byteIn", "(I)I"⟩ ∈ TT := TT_in 869 rfl rfl
set_option maxRecDepth 20000 in
theorem tt871 : Cond.instanceMethod ⟨"LayeredBitsModel", "byteIn", "(I)I"⟩ ∈ TT := TT_in 871 rfl rfl
set_option maxRecDepth 20000 in
theorem tt872 : Cond.code ⟨"LayeredBitsModel", "byteIn", "(I)I"⟩ prog_10_method_32_code 2 (some FieldType.int) ∈ TT := TT_in 872 rfl rfl
set_option maxRecDepth 20000 in
theorem tt873 : Cond.methodLink "LayeredBitsModel" 193 ⟨"LayeredBitsModel", "behindRemarks", "(I)I"⟩ ∈ TT := TT_in 873 rfl rfl
set_option maxRecDepth 20000 in
theorem tt875 : Cond.instanceMethod ⟨"LayeredBitsModel", "behindRemarks", "(I)I"⟩ ∈ TT := TT_in 875 rfl rfl
set_option maxRecDepth 20000 in
theorem tt876 : Cond.code ⟨"LayeredBitsModel", "behindRemarks", "(I)I"⟩ prog_10_method_33_code 4 (some FieldType.int) ∈ TT := TT_in 876 rfl rfl
set_option maxRecDepth 20000 in
theorem tt877 : Cond.methodLink "LayeredBitsModel" 196 ⟨"LayeredBitsModel", "behindLayer", "(I)I"⟩ ∈ TT := TT_in 877 rfl rfl
set_option maxRecDepth 20000 in
theorem tt879 : Cond.instanceMethod ⟨"LayeredBitsModel", "behindLayer", "(I)I"⟩ ∈ TT := TT_in 879 rfl rfl
set_option maxRecDepth 20000 in
theorem tt880 : Cond.code ⟨"LayeredBitsModel", "behindLayer", "(I)I"⟩ prog_10_method_34_code 5 (some FieldType.int) ∈ TT := TT_in 880 rfl rfl
set_option maxRecDepth 20000 in
theorem tt881 : Cond.methodLink "LayeredBitsModel" 202 ⟨"LayeredBitsModel", "sideOf", "(II)I"⟩ ∈ TT := TT_in 881 rfl rfl
set_option maxRecDepth 20000 in
theorem tt883 : Cond.instanceMethod ⟨"LayeredBitsModel", "sideOf", "(II)I"⟩ ∈ TT := TT_in 883 rfl rfl
set_option maxRecDepth 20000 in
theorem tt884 : Cond.code ⟨"LayeredBitsModel", "sideOf", "(II)I"⟩ prog_10_method_37_code 5 (some FieldType.int) ∈ TT := TT_in 884 rfl rfl
set_option maxRecDepth 20000 in
theorem tt885 : Cond.methodLink "LayeredBitsModel" 205 ⟨"LayeredBitsModel", "collect", "(I)V"⟩ ∈ TT := TT_in 885 rfl rfl
set_option maxRecDepth 20000 in
theorem tt887 : Cond.instanceMethod ⟨"LayeredBitsModel", "collect", "(I)V"⟩ ∈ TT := TT_in 887 rfl rfl
set_option maxRecDepth 20000 in
theorem tt888 : Cond.code ⟨"LayeredBitsModel", "collect", "(I)V"⟩ prog_10_method_36_code 3 none ∈ TT := TT_in 888 rfl rfl
set_option maxRecDepth 20000 in
theorem tt889 : Cond.methodLink "LayeredBitsLaw" 97 ⟨"LayeredBitsModel", "told", "(I)I"⟩ ∈ TT := TT_in 889 rfl rfl
set_option maxRecDepth 20000 in
theorem tt890 : Cond.instanceMethod ⟨"LayeredBitsModel", "told", "(I)I"⟩ ∈ TT := TT_in 890 rfl rfl
set_option maxRecDepth 20000 in
theorem tt891 : Cond.selects "LayeredBitsModel" ⟨"LayeredBitsModel", "told", "(I)I"⟩ ⟨"LayeredBitsModel", "told", "(I)I"⟩ ∈ TT := TT_in 891 rfl rfl
set_option maxRecDepth 20000 in
theorem tt892 : Cond.code ⟨"LayeredBitsModel", "told", "(I)I"⟩ prog_10_method_39_code 2 (some FieldType.int) ∈ TT := TT_in 892 rfl rfl
set_option maxRecDepth 20000 in
theorem tt893 : Cond.methodLink "LayeredBitsLaw" 101 ⟨"LayeredBitsModel", "size", "()I"⟩ ∈ TT := TT_in 893 rfl rfl
set_option maxRecDepth 20000 in
theorem tt894 : Cond.instanceMethod ⟨"LayeredBitsModel", "size", "()I"⟩ ∈ TT := TT_in 894 rfl rfl
set_option maxRecDepth 20000 in
theorem tt895 : Cond.selects "LayeredBitsModel" ⟨"LayeredBitsModel", "size", "()I"⟩ ⟨"LayeredBitsModel", "size", "()I"⟩ ∈ TT := TT_in 895 rfl rfl
set_option maxRecDepth 20000 in
theorem tt896 : Cond.code ⟨"LayeredBitsModel", "size", "()I"⟩ prog_10_method_40_code 1 (some FieldType.int) ∈ TT := TT_in 896 rfl rfl
set_option maxRecDepth 20000 in
theorem tt897 : Cond.methodLink "LayeredBitsLaw" 104 ⟨"LayeredBitsModel", "byteAt", "(I)I"⟩ ∈ TT := TT_in 897 rfl rfl
set_option maxRecDepth 20000 in
theorem tt898 : Cond.instanceMethod ⟨"LayeredBitsModel", "byteAt", "(I)I"⟩ ∈ TT := TT_in 898 rfl rfl
set_option maxRecDepth 20000 in
theorem tt899 : Cond.selects "LayeredBitsModel" ⟨"LayeredBitsModel", "byteAt", "(I)I"⟩ ⟨"LayeredBitsModel", "byteAt", "(I)I"⟩ ∈ TT := TT_in 899 rfl rfl
set_option maxRecDepth 20000 in
theorem tt900 : Cond.code ⟨"LayeredBitsModel", "byteAt", "(I)I"⟩ prog_10_method_41_code 2 (some FieldType.int) ∈ TT := TT_in 900 rfl rfl
set_option maxRecDepth 20000 in
theorem tt901 : Cond.methodLink "LayeredBitsLaw" 107 ⟨"LayeredBitsModel", "poke", "(II)V"⟩ ∈ TT := TT_in 901 rfl rfl
set_option maxRecDepth 20000 in
theorem tt902 : Cond.instanceMethod ⟨"LayeredBitsModel", "poke", "(II)V"⟩ ∈ TT := TT_in 902 rfl rfl
set_option maxRecDepth 20000 in
theorem tt903 : Cond.selects "LayeredBitsModel" ⟨"LayeredBitsModel", "poke", "(II)V"⟩ ⟨"LayeredBitsModel", "poke", "(II)V"⟩ ∈ TT := TT_in 903 rfl rfl
set_option maxRecDepth 20000 in
theorem tt904 : Cond.code ⟨"LayeredBitsModel", "poke", "(II)V"⟩ prog_10_method_42_code 3 none ∈ TT := TT_in 904 rfl rfl
set_option maxRecDepth 20000 in
theorem tt905 : Cond.methodLink "LayeredBitsLaw" 113 ⟨"LayeredBitsModel", "type", "(JI)I"⟩ ∈ TT := TT_in 905 rfl rfl
set_option maxRecDepth 20000 in
theorem tt906 : Cond.instanceMethod ⟨"LayeredBitsModel", "type", "(JI)I"⟩ ∈ TT := TT_in 906 rfl rfl
set_option maxRecDepth 20000 in
theorem tt907 : Cond.selects "LayeredBitsModel" ⟨"LayeredBitsModel", "type", "(JI)I"⟩ ⟨"LayeredBitsModel", "type", "(JI)I"⟩ ∈ TT := TT_in 907 rfl rfl
set_option maxRecDepth 20000 in
theorem tt908 : Cond.code ⟨"LayeredBitsModel", "type", "(JI)I"⟩ prog_10_method_43_code 5 (some FieldType.int) ∈ TT := TT_in 908 rfl rfl
set_option maxRecDepth 20000 in
theorem tt909 : Cond.methodLink "LayeredBitsLaw" 117 ⟨"LayeredBitsModel", "cut", "(I)V"⟩ ∈ TT := TT_in 909 rfl rfl
set_option maxRecDepth 20000 in
theorem tt910 : Cond.instanceMethod ⟨"LayeredBitsModel", "cut", "(I)V"⟩ ∈ TT := TT_in 910 rfl rfl
set_option maxRecDepth 20000 in
theorem tt911 : Cond.selects "LayeredBitsModel" ⟨"LayeredBitsModel", "cut", "(I)V"⟩ ⟨"LayeredBitsModel", "cut", "(I)V"⟩ ∈ TT := TT_in 911 rfl rfl
set_option maxRecDepth 20000 in
theorem tt912 : Cond.code ⟨"LayeredBitsModel", "cut", "(I)V"⟩ prog_10_method_44_code 2 none ∈ TT := TT_in 912 rfl rfl
set_option maxRecDepth 20000 in
theorem tt913 : Cond.constantLong "LayeredBitsLaw" 108 (4294967295 : Int64) ∈ TT := TT_in 913 rfl rfl
set_option maxRecDepth 20000 in
theorem tt914 : Cond.arrayClass FieldType.long ∈ TT := TT_in 914 rfl rfl
set_option maxRecDepth 20000 in
theorem tt915 : Cond.sameMethod "java/lang/Throwable" "java/lang/Throwable" "fillInStackTrace" "(I)Ljava/lang/Throwable;" ∈ TT := TT_in 915 rfl rfl
set_option maxRecDepth 20000 in
theorem tt916 : Cond.selects "LayeredBits$TakenNumber" ⟨"LayeredBits$TakenNumber", "makeDouble", "()V"⟩ ⟨"LayeredBits$TakenNumber", "makeDouble", "()V"⟩ ∈ TT := TT_in 916 rfl rfl
set_option maxRecDepth 100000 in
theorem in_Pic : ∀ w ∈ u_ws R_Pic F_Pic 3, w ∈ TT := by decide +kernel
set_option maxRecDepth 100000 in
theorem in_Tak : ∀ w ∈ u_ws R_Tak F_Tak 4, w ∈ TT := by decide +kernel
set_option maxRecDepth 100000 in
theorem in_Top : ∀ w ∈ u_ws R_Top F_Top 6, w ∈ TT := by decide +kernel
set_option maxRecDepth 100000 in
theorem in_Mod : ∀ w ∈ u_ws R_Mod F_Mod 34, w ∈ TT := by decide +kernel
