/-! the reference's own methods: what begins to load, shows, a tick -/
section QRQ
variable {ρ : qa_T} {s t : qs} {y : Int32} {N : Nat}
end QRQ
