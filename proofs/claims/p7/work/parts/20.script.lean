def rf_script : Array Value := #[.int (0), .int (-1073741823), .int (-1), .int (0), .int (0), .int (1), .int (0), .int (0), .int (0), .int (0), .int (3), .int (0), .int (0), .int (0), .int (0), .int (5), .int (0), .int (0), .int (0), .int (1)]
def rf_about : State := start1.aboutOf rf_script
