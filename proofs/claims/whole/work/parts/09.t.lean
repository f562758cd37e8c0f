theorem tt1 : (vx_atS RX0 254 "java/lang/IndexOutOfBoundsException" ["java/lang/RuntimeException", "java/lang/Exception"]).all goodWord = true := by decide +kernel
