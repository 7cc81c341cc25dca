theorem at_X5_260 : ∀ w ∈ vx_atS RX5 260 "java/lang/IndexOutOfBoundsException" ["java/lang/RuntimeException", "java/lang/Exception"], w ∈ TB ∨ w ∈ NGW := at_of (by decide +kernel)
theorem at_X5_271 : ∀ w ∈ vx_atS RX5 271 "java/lang/IllegalArgumentException" ["java/lang/RuntimeException", "java/lang/Exception"], w ∈ TB ∨ w ∈ NGW := at_of (by decide +kernel)
