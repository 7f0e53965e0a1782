theorem sgCode_all : ∀ m, m < NM → m ∈ sgCode := by decide +kernel
