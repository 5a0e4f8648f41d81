/** What the document's first page says the class is for, each part of it as a small story with the numbers worked out by hand. */
final class WholeEdges {
    private static final int NONE = SlotBuses.NONE;
    /** Nine wait at the head of BUS 0, one far behind it, all for the last STATION. */
    private static final String FAR_APART = "sn8;qf0t7m9;qf6t7";

    private WholeEdges() {
    }

    static void all() {
        oneLine();
        levels();
        likeShares();
        erasers();
        cuts();
        whatIsTold();
        texts();
        yearsAndActs();
        images();
    }

    private static void inTurn(SlotBuses x, int... numbers) {
        for (int i = 0; i < numbers.length; i++) Doc.due("next(" + i + ")", x.next(i), numbers[i]);
    }

    private static void oneLine() {
        Doc.says(0, "Two buses past a row of stations, each from its own end, that make far stations one line");
        // The head hears of the far one when its second is ACTIVE already; for BUS 1 ahead of that, as BUS 0 goes first.
        inTurn(Check.row(FAR_APART), 1, 2, 10, 3, 4);
        inTurn(Check.row("sn8;qf7t0m9;qf1t0"), 1, 10, 2, 3, 4);
        Doc.due("each BUS has SLOTS of its own", Check.row("sn8;qf0t7m9;qf7t0m9").tick(9), 18);

        Doc.says(0, "whoever wants to send on the one asks on the other, counts who asked ahead, lets so many empty slots pass");
        SlotBuses x = Check.row(FAR_APART);
        Doc.due("it has to ask", Check.line(x, 6, 0, 0, 4), 1);
        x.tick(1);
        Doc.due("it asked", Check.line(x, 6, 0, 0, 4), 0);
        Doc.due("that was counted at the head", Check.line(x, 0, 0, 0, 2), 1);
        Doc.due("it was on the other BUS, so not behind it", Check.line(x, 7, 0, 0, 2), 0);
        x.tick(1);
        Doc.due("the third of the nine has one ahead of it", Check.line(x, 0, 0, 0, 3), 1);
        x.tick(1);
        Doc.due("the head let one pass", x.station(0, 2) * 10 + Check.line(x, 0, 0, 0, 3), 20);
        Doc.due("into which went who had asked", x.station(6, 2), 1);
    }

    private static void levels() {
        Doc.says(0, "levels that go ahead of others");
        inTurn(Check.row("sn2l3;q;ql1;ql2"), 3, 2, 1);
        inTurn(Check.row("sn2l3;ql2m2;q;ql1"), 1, 2, 4, 3);
    }

    /** The head sends alone till its asks would have been heard; then STATION 3 wants as much as it does. */
    private static SlotBuses busy(int delay, int balance) {
        SlotBuses x = Check.row("sn5d" + delay + "b" + balance + ";qf0t4m9");
        x.tick(3 * delay + 1);
        fillUp(x);
        return x;
    }

    private static void fillUp(SlotBuses x) {
        for (int station = 0; station <= 3; station += 3) {
            while (x.station(station, 0) < 30) x.come(station, 4, 0, Math.min(9, 30 - x.station(station, 0)));
        }
    }

    private static void likeShares() {
        Doc.says(0, "stations that leave a slot free now and then, so that all come to like shares");
        SlotBuses alone = busy(3, 0);
        Doc.due("without BALANCE the head has nearly all", alone.share(0, 30) > 25 && alone.share(3, 30) < 5, true);
        for (int balance = 1; balance <= 2; balance++) {
            for (int delay = 0; delay <= 3; delay++) {
                SlotBuses x = busy(delay, balance);
                for (int i = 0; i < 30; i++) {
                    x.tick(10);
                    fillUp(x);
                }
                int apart = x.share(0, 60) - x.share(3, 60);
                Doc.due("BALANCE " + balance + ", DELAY " + delay + ": how far apart they stay", Math.abs(apart) <= 1, true);
            }
            SlotBuses near = busy(0, balance);
            for (int station = 0; station <= 3; station += 3) {
                Doc.due("FAIR for two", near.share(station, 45), 45 * near.fair(2, 0) / near.fair(2, 1));
            }
        }
    }

    private static void erasers() {
        Doc.says(0, "stations that empty what they have read");
        Doc.due("the SLOT stays full", Check.row("sn3;qf0t1;qf1t2").tick(1), 1);
        Doc.due("it is used again in the same TICK", Check.row("sn3e2;qf0t1;qf1t2").tick(1), 2);
    }

    private static void cuts() {
        Doc.says(0, "buses that are cut, and a new head that begins behind the cut");
        SlotBuses x = Check.row("sn4;qf0t3;qf2t3;qf3t0;qf1t0");
        x.cut(1);
        Doc.due("who is behind the cut sends in its first TICK", x.tick(1), 2);
        Doc.due("those are 2 of BUS 0, 4 of BUS 1", x.arrival(1, 0) * 10 + x.arrival(0, 0), 24);
        Doc.due("who was to go over it is lost", x.all(4), 2);
    }

    private static void whatIsTold() {
        Doc.says(0, "what waits, what is delivered and how long it waited, what is lost, what is ahead, who has which share, "
            + "whether the line is first come, first served, which cut is worst, which eraser is best");
        SlotBuses x = Check.row("sn4;qf0t1m2;qf1t2");
        Doc.due("what waits", x.all(1), 3);
        Doc.due("what is ahead, DELIVERED", x.ahead(2, 0), 2);
        Doc.due("what is ahead, waiting", x.ahead(2, 1), 1);
        Doc.due("who has which share", x.share(0, 3) * 10 + x.share(1, 3), 21);
        Doc.due("first come, first served", x.firstCome(), true);
        Doc.due("the tenth is served ahead of the third", Check.row(FAR_APART).firstCome(), false);
        Doc.due("which cut is worst", x.worst(0) * 10 + x.worst(1), 2);
        Doc.due("which eraser is best", x.gain(1, 0) * 10 + x.gain(1, 1), 12);
        Doc.due("what is delivered", x.tick(3), 3);
        for (int i = 0; i < 3; i++) Doc.due("how long it waited", x.arrival(i, 3), 2 - i);
        Doc.due("what is lost", x.all(4), 0);
        x.come(0, 3, 0, 1);
        x.cut(2);
        x.tick(1);
        Doc.due("what is lost by a cut", x.all(4), 1);
    }

    private static void texts() {
        Doc.says(0, "lines and scripts told as texts");
        SlotBuses x = Check.row("q f3 t1 m3; s n5 l2; q f3 l1 t4");
        Doc.due("a row", x.rule(0), 5);
        Doc.due("a line", Check.line(x, 3, 1, 0, 0) * 10 + Check.line(x, 3, 0, 1, 0), 31);
        Doc.due("a script", Check.script(x, "w3,1; t1"), 0);
        Doc.due("it is done", x.perform(0), 2);
        Doc.due("two were withdrawn, two delivered", x.all(1) * 10 + x.all(3), 2);
    }

    private static void yearsAndActs() {
        Doc.says(0, "years by draws, a log, a status of what was refused, acts undone");
        SlotBuses x = Check.row("sn4");
        SlotBuses y = Check.row("sn4");
        int time = x.years(40, 77L);
        Doc.due("the same draws", y.years(40, 77L), time);
        int acts = x.count(3);
        Doc.due("the log tells them", acts > 20 && acts <= 40, true);
        for (int i = 0; i < acts; i++) {
            for (int what = 0; what < 3; what++) Doc.due("of both alike", x.log(i, what), y.log(i, what));
        }
        Doc.due("nothing was refused by them", x.status(0) + x.status(1) + x.status(2) + x.status(3), 0);
        x.tick(0);
        Doc.due("a status of what was refused", x.status(1), 1);
        for (int left = acts - 1; left >= 0; left--) Doc.due("acts undone", x.undo(), left);
        Doc.due("all of them", x.all(0) + x.all(6) + x.rule(4) + x.rule(5) + x.count(3), 0);
        Doc.due("none more", x.undo(), NONE);
    }

    private static void images() {
        Doc.says(0, "images. ==== 1.");
        SlotBuses x = Check.row("sn3d1;qf0t2m3");
        x.tick(1);
        Doc.due("an image", x.image(), 1);
        x.tick(8);
        Doc.due("all delivered", x.all(3), 3);
        Doc.due("back", x.back(), 1);
        Doc.due("one is under way, two wait again", x.all(2) * 10 + x.all(1), 12);
    }
}
