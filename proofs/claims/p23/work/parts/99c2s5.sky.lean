/-! THE SKY of the class: one that breaks; printed by program -/
section SKY5
end SKY5
