/** Objects in known states, for the tests at the edges. */
final class States {
    private States() {
    }

    static RubbedSheets fresh() {
        return new RubbedSheets();
    }

    static RubbedSheets rooms(int n) {
        RubbedSheets x = new RubbedSheets();
        for (int room = 0; room < n; room++) {
            x.room();
        }
        return x;
    }

    /** One room, with children on the seats 0, 1, .. */
    static RubbedSheets children(int n) {
        RubbedSheets x = rooms(1);
        for (int child = 0; child < n; child++) {
            x.child(0, child);
        }
        return x;
    }

    /** One room, with a child and a sheet for each row ('.' is blank); keys are 0. */
    static RubbedSheets sheets(String... rows) {
        RubbedSheets x = children(rows.length);
        for (int child = 0; child < rows.length; child++) {
            Due.read(x, child, rows[child]);
        }
        return x;
    }

    /**
     * A little of everything. Room 0: children 0, 1, 2 on seats 0, 1, 2; room 1: child 3 on seat 19. Of year 0
     * there are sheets of 0, 1 and 3, of year 1, which is open, of 0 and 3. Ways 0 and 1, a tape, two forms,
     * two holdings; slips of 12, 5 and no numbers and a missing one; an older image with one room is kept.
     */
    static RubbedSheets school() {
        RubbedSheets x = rooms(1);
        x.question(7, 0, 3);
        x.image();
        x.room();
        for (int seat = 0; seat < 3; seat++) {
            x.child(0, seat);
        }
        x.child(1, 19);
        x.question(3, 0, 2);
        x.question(5, 1, 7);
        x.learn(0, 3, true);
        x.learn(0, 4, false);
        Due.read(x, 0, "0121.0000300");
        x.mark(0, 1, 5, 0);
        x.mark(0, 0, 4, 3);
        x.mark(0, 2, 3, -1);
        x.sit(1, 77);
        x.sit(3, 4);
        x.year();
        Due.read(x, 0, "11....22..30");
        x.sit(3, 9);
        x.puts(0, 1);
        x.measure(0, 0, 0);
        Due.way(x, "wr+1");
        Due.way(x, "size>1");
        Due.feed(x, "fit");
        x.holds(1, 0, 2, 9);
        x.holds(4, 1, 0, 99);
        x.form(5, 2);
        x.form(3, 32);
        x.slip(0, 8, 12);
        x.copy(3, 0, 0, 0, 12);
        x.slip(1, 16, 5);
        x.slip(2, 32, 0);
        x.slip(3, 0, 0);
        x.child(9, 9);
        return x;
    }

    /**
     * All that has a limit is at it. Room 5 has children 0 to 19 on seats 0 to 19, rooms 0 to 3 have children 20
     * to 23 on seat 0, room 4 has none. Children 0 and 23 have sheets of all years; year 5 is open.
     */
    static RubbedSheets brim() {
        RubbedSheets x = rooms(6);
        for (int child = 0; child < 24; child++) {
            x.child(child < 20 ? 5 : child - 20, child < 20 ? child : 0);
        }
        for (int year = 0; year <= 5; year++) {
            x.sit(0, year);
            x.sit(23, 60 + year);
            if (year < 5) {
                x.year();
            }
        }
        for (int way = 0; way < 6; way++) {
            x.feed('0' + way, 1);
            x.way();
        }
        for (int form = 0; form < 8; form++) {
            x.form(99, 1 << form);
        }
        for (int i = 0; i < 30; i++) {
            x.holds(i % 10, i % 6, i, i + 60);
        }
        for (int i = 0; i < 25; i++) {
            x.feed(0x20202031, 4);
        }
        for (int s = 0; s < 4; s++) {
            x.slip(s, 32, 24);
        }
        x.image();
        return x;
    }
}
