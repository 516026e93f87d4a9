abbrev tA : List Cond := (vx_atS RX5 207 "java/lang/IndexOutOfBoundsException" ["java/lang/RuntimeException", "java/lang/Exception"]).filter (fun w => !goodWord w)
theorem c1 : tA.length = 4 := by decide +kernel
theorem c2 : tA.length = 5 := by decide +kernel
theorem c3 : tA.length = 6 := by decide +kernel
theorem c4 : tA.length = 7 := by decide +kernel
theorem c5 : tA.length = 8 := by decide +kernel
theorem d1 : tA.all (fun w => match w with | .castable .. => true | .codeSync .. => true | _ => false) = true := by decide +kernel
theorem d2 : tA.all (fun w => match w with | .castable .. => true | .codeSync .. => true | .overrides .. => true | .lays .. => true | .fieldLink .. => true | .methodLink .. => true | .instanceMethod .. => true | _ => false) = true := by decide +kernel
theorem d3 : tA.all (fun w => match w with | .castable .. => true | .sameField .. => true | .sameMethod .. => true | _ => false) = true := by decide +kernel
theorem d4 : tA.any (fun w => match w with | .laysStatic .. => true | _ => false) = true := by decide +kernel
theorem d5 : tA.any (fun w => match w with | .isRef .. => true | _ => false) = true := by decide +kernel
theorem d6 : tA.any (fun w => match w with | .codeSync .. => true | _ => false) = true := by decide +kernel
theorem d7 : tA.any (fun w => match w with | .superclass .. => true | _ => false) = true := by decide +kernel
theorem d8 : tA.any (fun w => match w with | .native .. => true | _ => false) = true := by decide +kernel
theorem d9 : tA.any (fun w => match w with | .selects .. => true | _ => false) = true := by decide +kernel
theorem e1 : tA.any (fun w => match w with | .lays .. => true | _ => false) = true := by decide +kernel
theorem e2 : tA.any (fun w => match w with | .initialized .. => true | _ => false) = true := by decide +kernel
theorem e3 : tA.any (fun w => match w with | .methodLink .. => true | _ => false) = true := by decide +kernel
