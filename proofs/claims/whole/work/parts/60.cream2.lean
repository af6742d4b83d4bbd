theorem sub_d : ∀ o : Fin 256, ∀ x : Fin 256, (zand x.val (zxor o.val (-1)) = 0 ↔ sb (nb o.val) (nb x.val) 8 = true) := by decide +kernel
