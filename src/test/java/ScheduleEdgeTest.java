/** The edges of promises 7 and 8 and of the SCHEDULE, a method for each sentence that names one. */
public final class ScheduleEdgeTest {
    private static final int ROOM = 200;

    public static void main(String[] args) {
        Due due = new Due("ScheduleEdgeTest");
        room(due);
        characters(due);
        textIsEmptyThen(due);
        countOfSteps(due);
        letters(due);
        marks(due);
        digits(due);
        wrongCharacter(due);
        moreMustCome(due);
        kelvinBounds(due);
        dampBounds(due);
        firstNumberHasNoBounds(due);
        lastDigitRead(due);
        noScheduleThen(due);
        oneStepAnHour(due);
        noStepMore(due);
        timeByHours(due);
        timeByWetness(due);
        noneThere(due);
        greatestMean(due);
        stepsInOrder(due);
        due.end();
    }

    private static int answer(String text) {
        return Boards.schedule(new LayerMoisture(1, 1), text);
    }

    /** An object whose boards keep their wetness. */
    private static LayerMoisture still(int layers, int boards) {
        LayerMoisture x = new LayerMoisture(layers, boards);
        x.air(293, 0.5, 0);
        return x;
    }

    /** So many steps of the longest form, 12 characters each. */
    private static String longSteps(int steps) {
        StringBuilder text = new StringBuilder();
        for (int s = 0; s < steps; s++) {
            text.append(s == 0 ? "" : ";").append(s % 2 == 0 ? "h999:400,100" : "w999:250,000");
        }
        return text.toString();
    }

    private static void room(Due due) {
        due.sentence("7: whether there was room; a text of at most 200 characters");
        LayerMoisture x = new LayerMoisture(1, 1);
        Boards.write(x, "h5:300,10");
        for (int i = 9; i < ROOM; i++) {
            due.is("character " + i, x.unit(';'), true);
        }
        for (int i = 0; i < 3; i++) {
            due.is("no room behind 200", x.unit(';'), false);
        }
        due.is("the text that was full", x.schedule(), -1 - 10);
        String steps = longSteps(16).substring(0, ROOM);
        due.is("a full text of steps ends behind the twelfth", Boards.schedule(x, steps), -1 - 155);
    }

    private static void characters(Due due) {
        due.sentence("7: .. and it is 32 .. 126");
        LayerMoisture x = new LayerMoisture(1, 1);
        Boards.write(x, "h5:3");
        int[] wrong = {Integer.MIN_VALUE, -1, 0, 9, 10, 13, 31, 127, 128, 160, 255, 256 + '0', 65536 + '0',
                Integer.MAX_VALUE};
        for (int u : wrong) {
            due.is("unit " + u, x.unit(u), false);
        }
        Boards.write(x, "00,1");
        due.is("none of them is in the text", x.schedule(), 1);
        for (int u : new int[] {32, 33, 125, 126}) {
            LayerMoisture y = new LayerMoisture(1, 1);
            Boards.write(y, "h5:300,1");
            due.is("unit " + u, y.unit(u), true);
            due.is("it is in the text, " + u, y.schedule(), -1 - 8);
        }
    }

    private static void textIsEmptyThen(Due due) {
        due.sentence("8: The text (which is empty then)");
        LayerMoisture x = new LayerMoisture(1, 1);
        due.is("at first it is empty", x.schedule(), -1);
        due.is("a text of one step", Boards.schedule(x, "h5:300,10"), 1);
        due.is("empty behind that", x.schedule(), -1);
        due.is("a text with a fault", Boards.schedule(x, "h5:300,10;h5x"), -1 - 12);
        due.is("empty behind that, too", Boards.schedule(x, "w7:250,0"), 1);
        for (int i = 0; i < ROOM; i++) {
            x.unit('h');
        }
        due.is("full", x.unit('h'), false);
        due.is("hh", x.schedule(), -2);
        for (int i = 0; i < ROOM; i++) {
            due.is("room for all 200 again, " + i, x.unit('w'), true);
        }
        due.is("and no more", x.unit('w'), false);
    }

    private static void countOfSteps(Due due) {
        due.sentence("steps, 1 to 12");
        due.is("none", answer(""), -1);
        for (int steps = 1; steps <= 12; steps++) {
            due.is("so many as", answer(longSteps(steps)), steps);
        }
        int end = longSteps(12).length();
        due.is("13 steps", answer(longSteps(13)), -1 - end);
        due.is("a mark behind 12", answer(longSteps(12) + ";"), -1 - end);
        due.is("a mark behind 11", answer(longSteps(11) + ";"), -1 - (longSteps(11).length() + 1));
    }

    private static void letters(Due due) {
        due.sentence("w (119) or h (104)");
        for (int u = 32; u <= 126; u++) {
            boolean right = u == 119 || u == 104;
            due.is("first character " + u, answer((char) u + "5:300,10"), right ? 1 : -1);
            due.is("second step's " + u, answer("h5:300,10;" + (char) u + "5:300,10"), right ? 2 : -1 - 10);
        }
    }

    private static void marks(Due due) {
        due.sentence("with ; (59) between them: .. a number, : (58), a number, , (44), a number");
        for (int u = 32; u <= 126; u++) {
            if (u >= '0' && u <= '9') {
                continue;
            }
            char c = (char) u;
            due.is("behind the first number " + u, answer("h5" + c + "300,10"), u == 58 ? 1 : -1 - 2);
            due.is("behind the second number " + u, answer("h5:300" + c + "10"), u == 44 ? 1 : -1 - 6);
            due.is("behind the third number " + u, answer("h5:300,10" + c + "h5:300,10"), u == 59 ? 2 : -1 - 9);
        }
    }

    private static void digits(Due due) {
        due.sentence("numbers have one to three digits");
        Object[][] rows = {
            {"h:300,10", -1 - 1}, {"h1:300,10", 1}, {"h12:300,10", 1}, {"h123:300,10", 1},
            {"h1234:300,10", -1 - 4}, {"h0000:300,10", -1 - 4}, {"h000:300,10", 1},
            {"h1:,10", -1 - 3}, {"h1:300,10", 1}, {"h1:3000,10", -1 - 6}, {"h1:0300,10", -1 - 3},
            {"h1:300,", -1 - 7}, {"h1:300,;", -1 - 7}, {"h1:300,1", 1}, {"h1:300,10", 1},
            {"h1:300,100", 1}, {"h1:300,001", 1}, {"h1:300,0001", -1 - 10}, {"h1:300,1000", -1 - 10},
        };
        answers(due, rows);
        for (int u = 32; u <= 126; u++) {
            boolean right = u >= '0' && u <= '9';
            due.is("a digit " + u, answer("h" + (char) u + ":300,10"), right ? 1 : -1 - 1);
        }
    }

    private static void answers(Due due, Object[][] rows) {
        for (Object[] row : rows) {
            due.is("'" + row[0] + "'", answer((String) row[0]), row[1]);
        }
    }

    private static void wrongCharacter(Due due) {
        due.sentence("8: -1 less the place of the first character that can't be there");
        String right = "w50:300,10;h700:310,20";
        // Behind 3 and 30 stands the number's fault, as they are below 250.
        int[] places = {0, 1, 2, 3, 4, 4, 4, 7, 8, 9, 10, 11, 12, 13, 14, 15, 16, 16, 16, 19, 20, 21};
        for (int i = 0; i < right.length(); i++) {
            String text = right.substring(0, i) + "x" + right.substring(i + 1);
            due.is("'" + text + "'", answer(text), -1 - places[i]);
            due.is("'" + text + "' and more", answer(text + "xx"), -1 - places[i]);
        }
        due.is("behind the end", answer(right + "x"), -1 - right.length());
        due.is("a space behind the end", answer(right + " "), -1 - right.length());
        due.is("a space before it", answer(" " + right), -1);
    }

    private static void moreMustCome(Due due) {
        due.sentence("8: .. or of its end, if more must come");
        Object[][] rows = {
            {"", -1}, {"w", -2}, {"w5", -3}, {"w50", -4}, {"w500", -5}, {"w50:", -5}, {"w50:300", -8},
            {"w50:300,", -9}, {"w50:300,1", 1}, {"w50:300,10", 1}, {"w50:300,10;", -12},
            {"w50:300,10;h", -13}, {"w50:300,10;h7", -14}, {"w50:300,10;h7:", -15},
            {"w50:300,10;h7:310", -18}, {"w50:300,10;h7:310,", -19}, {"w50:300,10;h7:310,2", 2},
        };
        answers(due, rows);
    }

    private static void kelvinBounds(Due due) {
        due.sentence("KELVIN is the second number (250 .. 400)");
        for (int kelvin = 0; kelvin <= 999; kelvin++) {
            boolean right = kelvin >= 250 && kelvin <= 400;
            due.is("of the first step " + kelvin, answer("h5:" + kelvin + ",10"), right ? 1 : -1 - 3);
            due.is("of the second step " + kelvin, answer("w5:300,1;h5:" + kelvin + ",10"), right ? 2 : -1 - 12);
        }
        for (int kelvin : new int[] {250, 251, 399, 400}) {
            LayerMoisture x = new LayerMoisture(1, 1);
            Boards.schedule(x, "h0:" + kelvin + ",10");
            x.run(1);
            due.is("KELVIN", x.told(0), kelvin);
        }
    }

    private static void dampBounds(Due due) {
        due.sentence("DAMP the third / 100 (0 .. 100)");
        for (int damp = 0; damp <= 999; damp++) {
            due.is("of the first step " + damp, answer("h5:300," + damp), damp <= 100 ? 1 : -1 - 7);
            due.is("of the second step " + damp, answer("w5:300,1;h5:300," + damp), damp <= 100 ? 2 : -1 - 16);
        }
        for (int damp = 0; damp <= 100; damp++) {
            LayerMoisture x = new LayerMoisture(1, 1);
            Boards.schedule(x, "h0:300," + damp);
            x.run(1);
            due.is("DAMP of " + damp, x.told(1), damp / 100.0);
        }
    }

    private static void firstNumberHasNoBounds(Due due) {
        due.sentence("w (119) or h (104), a number: any of one to three digits");
        for (String number : new String[] {"0", "00", "000", "1", "9", "10", "99", "100", "998", "999"}) {
            due.is("h" + number, answer("h" + number + ":300,10"), 1);
            due.is("w" + number, answer("w" + number + ":300,10"), 1);
        }
    }

    private static void lastDigitRead(Due due) {
        due.sentence("8: of a number that is beyond its bounds the place of its first digit"
                + " (when its last digit has been read)");
        Object[][] rows = {
            {"h5:2", -4}, {"h5:24", -4}, {"h5:249", -4}, {"h5:401", -4}, {"h5:000", -4}, {"h5:40", -4},
            {"h5:249,", -4}, {"h5:249x", -4}, {"h5:2x", -4}, {"h5:25,10", -4}, {"h5:401,101", -4},
            {"h5:2499", -4}, {"h5:4010", -4}, {"h5:4000", -7}, {"h5:2500", -7},
            {"h5:300,101", -8}, {"h5:300,999", -8}, {"h5:300,101;", -8}, {"h5:300,101x", -8},
            {"h5:300,1010", -8}, {"h5:300,1000", -11},
        };
        answers(due, rows);
        due.is("of the twelfth step", answer(longSteps(11) + ";h1:300,101"), -1 - 150);
    }

    private static void noScheduleThen(Due due) {
        due.sentence("8: Then there is no schedule");
        for (String fault : new String[] {"", "h0:320,30;", "h0:320,30x", "h0:320,101", "h0:249,30", "x"}) {
            LayerMoisture x = still(1, 1);
            Boards.schedule(x, "h0:300,10;h0:310,20");
            x.run(1);
            due.is("one step was done", x.count(1), 1);
            due.is("'" + fault + "' is below 0", Boards.schedule(x, fault) < 0, true);
            due.is("of no schedule no step was done", x.count(1), 0);
            x.run(5);
            due.is("no step comes", x.count(1), 0);
            due.is("KELVIN as before", x.told(0), 300);
            due.is("DAMP as before", x.told(1), 0.1);
        }
    }

    private static void oneStepAnHour(Due due) {
        due.sentence("(one step an hour)");
        LayerMoisture x = still(1, 1);
        x.board(0, 40, 0, 0);
        Boards.schedule(x, "h0:301,1;w0:302,2;h0:303,3;w999:304,4");
        for (int hour = 1; hour <= 4; hour++) {
            x.run(1);
            due.is("steps in hour " + hour, x.count(1), hour);
            due.is("KELVIN in hour " + hour, x.told(0), 300 + hour);
            due.is("DAMP in hour " + hour, x.told(1), hour / 100.0);
        }
    }

    private static void noStepMore(Due due) {
        due.sentence("the SCHEDULE: if it has a step more");
        LayerMoisture x = still(1, 1);
        x.run(1);
        due.is("no schedule yet", x.told(0), 293);
        Boards.schedule(x, longSteps(12).replace("h999", "h0").replace("w999", "h0"));
        x.run(12);
        due.is("all twelve were done", x.count(1), 12);
        x.air(280, 0.25, 0);
        x.run(50);
        due.is("none is done twice", x.count(1), 12);
        due.is("KELVIN of air", x.told(0), 280);
        due.is("DAMP of air", x.told(1), 0.25);
        Boards.schedule(x, "h0:333,33");
        due.is("a new one begins anew", x.count(1), 0);
        x.run(1);
        due.is("its first step", x.told(0), 333);
    }

    private static void timeByHours(Due due) {
        due.sentence("h: when HOURS are that number or more");
        for (int number : new int[] {0, 1, 2, 99, 100, 999}) {
            LayerMoisture x = still(1, 1);
            Boards.schedule(x, "h" + number + ":300,10");
            for (int left = number; left > 0; left -= Math.min(left, 100)) {
                x.run(Math.min(left, 100));
            }
            due.is("the hours before, of " + number, x.count(1), 0);
            x.run(1);
            due.is("the hour that begins with HOURS = " + number, x.count(1), 1);
        }
        LayerMoisture x = still(1, 1);
        x.run(50);
        Boards.schedule(x, "h7:300,10");
        x.run(1);
        due.is("HOURS are more already", x.count(1), 1);
    }

    private static void timeByWetness(Due due) {
        due.sentence("w: when the greatest of the mean wetnesses is at most number / 100");
        for (int number : new int[] {0, 1, 7, 29, 57, 100, 299, 300}) {
            double bound = number / 100.0;
            if (number < 300) {
                due.is("just above " + number, stepsDone(number, Math.nextUp(bound)), 0);
            }
            due.is("as much as " + number, stepsDone(number, bound), 1);
            due.is("just below " + number, stepsDone(number, bound == 0 ? 0 : Math.nextDown(bound)), 1);
        }
        due.is("the greatest number", stepsDone(999, 3), 1);
    }

    private static int stepsDone(int number, double wet) {
        LayerMoisture x = still(1, 1);
        x.board(0, 40, wet, 0);
        Boards.schedule(x, "w" + number + ":300,10");
        x.run(1);
        return x.count(1);
    }

    private static void noneThere(Due due) {
        due.sentence("(none there: never)");
        LayerMoisture x = still(1, 8);
        Boards.schedule(x, "w999:300,10;h0:310,20");
        x.run(100);
        due.is("no step", x.count(1), 0);
        due.is("nor the one behind it", x.told(0), 293);
        x.board(7, 40, 3, 0);
        x.run(1);
        due.is("one is there", x.told(0), 300);
    }

    private static void greatestMean(Due due) {
        due.sentence("the greatest of the mean wetnesses (the sum of W from the first one on / LAYERS)"
                + " of all boards that are there");
        for (int wetter = 0; wetter < 8; wetter++) {
            LayerMoisture x = still(2, 8);
            for (int k = 0; k < 8; k++) {
                x.board(k, 40, 0.25, 0);
            }
            x.soak(wetter, 0, 3);
            Boards.schedule(x, "w25:300,10");
            x.run(3);
            due.is("board " + wetter + " is too wet", x.count(1), 0);
            x.soak(wetter, 0, 0.5);
            x.soak(wetter, 1, 0);
            x.run(1);
            due.is("its mean is 0.25, though a layer is not", x.count(1), 1);
        }
        // 0.1 + 0.2 + 0.3 is above 0.6, and so is a third of it above 0.2; 0.3 + 0.2 + 0.1 is not.
        double[][] orders = {{0.1, 0.2, 0.3, 0}, {0.3, 0.2, 0.1, 1}};
        for (double[] order : orders) {
            LayerMoisture x = still(3, 1);
            x.board(0, 40, 0, 0);
            for (int layer = 0; layer < 3; layer++) {
                x.soak(0, layer, order[layer]);
            }
            Boards.schedule(x, "w20:300,10");
            x.run(1);
            due.is("the sum begins with " + order[0], x.count(1), (int) order[3]);
        }
    }

    private static void stepsInOrder(Due due) {
        due.sentence("if it has a step more, and that step's time has come");
        LayerMoisture x = still(1, 1);
        Boards.schedule(x, "h4:300,10;h1:310,20;h9:320,30");
        x.run(4);
        due.is("a later step does not pass the first one", x.count(1), 0);
        x.run(1);
        due.is("the first one", x.told(0), 300);
        x.run(1);
        due.is("the second one, whose time was before", x.told(0), 310);
        x.run(3);
        due.is("the third one waits", x.told(0), 310);
        x.run(1);
        due.is("the third one", x.told(0), 320);
    }
}
