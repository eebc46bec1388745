theorem t1 : (vx_atS RX5 89 RJx3273f ["java/lang/RuntimeException", "java/lang/Exception"]).all goodWord = true := by decide +kernel
theorem t1b : (vx_atS RX5 96 RJx00060 ["java/lang/IndexOutOfBoundsException", "java/lang/RuntimeException", "java/lang/Exception"]).all goodWord = true := by decide +kernel
theorem t2 : (vx_atS RX5 89 RJx3273f ["java/lang/RuntimeException", "java/lang/Exception"]).all (fun w => goodWord w || (match w with | .castable _ _ => true | _ => false)) = true := by decide +kernel
theorem t3 : (vx_atS RX5 89 RJx3273f ["java/lang/RuntimeException", "java/lang/Exception"]).all (fun w => goodWord w || (match w with | .superclass _ _ => true | .castable _ _ => true | _ => false)) = true := by decide +kernel
theorem t6 : goodWord (.castable "a" "b") = true := by decide +kernel
theorem t7 : goodWord (.superclass "a" "b") = true := by decide +kernel
theorem t8 : goodWord (.native Bundle.tFill0) = true := by decide +kernel
theorem t9 (x : MethodName) (c : ByteArray) : goodWord (.codeSync x c 1 none) = true := rfl
theorem t10  : goodWord (.lays "a" "b" "c" "d") = true := rfl
theorem t11 : (vx_atS RX5 89 RJx3273f ["java/lang/RuntimeException", "java/lang/Exception"]).all (fun w => goodWord w || (match w with | .selects _ _ _ => true | .native _ => true | .codeSync _ _ _ _ => true | .superclass _ _ => true | .castable _ _ => true | _ => false)) = true := by decide +kernel
