/-! CONTRACTS of the reference, the tenth part, printed by program -/
section CU4
end CU4
