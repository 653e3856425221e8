/-! CONTRACTS of the reference, the eleventh part, printed by program -/
section CU5
end CU5
