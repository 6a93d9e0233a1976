/-! ENDS -/
theorem po_at0N : (vx_at0 RX10 182 "java/util/NoSuchElementException" ["java/lang/RuntimeException", "java/lang/Exception"]).all (fun w => goodWord w || po_other w) = true := by decide +kernel
