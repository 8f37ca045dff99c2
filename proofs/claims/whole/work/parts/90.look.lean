theorem zz_0 : goodWord (.native Bundle.tFill0) = true := by decide +kernel
theorem zz_1 : goodWord (.castable "java/lang/IndexOutOfBoundsException" "java/lang/IndexOutOfBoundsException") = true := by decide +kernel
theorem zz_2 : goodWord (.selects "java/lang/IndexOutOfBoundsException" Bundle.tFill0 Bundle.tFill0) = true := by decide +kernel
theorem zz_3 : goodWord (.selects "java/lang/IndexOutOfBoundsException" Bundle.tFill Bundle.tFill) = true := by decide +kernel
theorem zz_4 : goodWord (.instantiable "java/lang/IndexOutOfBoundsException" 6) = true := by decide +kernel
theorem zz_5 : goodWord (.instanceMethod Bundle.tFill0) = true := by decide +kernel
theorem zz_6 : goodWord (.methodLink Bundle.tN 27 Bundle.tFill) = true := by decide +kernel
theorem zz_7 : goodWord (.fieldLink Bundle.tN 13 Bundle.tN "UNASSIGNED_STACK" Bundle.steD) = true := by decide +kernel
theorem zz_8 : goodWord (.superclass Bundle.tN "java/lang/Object") = true := by decide +kernel
theorem zz_9 : goodWord (.lays Bundle.tN Bundle.tN "detailMessage" "Ljava/lang/String;") = true := by decide +kernel
theorem zz_10 : goodWord (.initialized Bundle.tN) = true := by decide +kernel
theorem zz_11 : goodWord (.fieldLink Bundle.tN 198 Bundle.tN "backtrace" "Ljava/lang/Object;") = true := by decide +kernel
