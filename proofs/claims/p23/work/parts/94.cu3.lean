/-! CONTRACTS of the reference, the ninth part, printed by program -/
section CU3
end CU3
