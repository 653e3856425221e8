/-! CONTRACTS of the reference, the seventh part, printed by program -/
section CU1
end CU1
