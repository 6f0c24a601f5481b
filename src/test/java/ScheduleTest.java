/** Promises 7 and 8: unit and schedule, and when a step's time comes. */
public final class ScheduleTest {
    public static void main(String[] args) {
        Due due = new Due("ScheduleTest");
        units(due);
        room(due);
        answers(due);
        steps(due);
        faultEndsSchedule(due);
        newScheduleBeginsAnew(due);
        byHours(due);
        byWetness(due);
        greatestOfMeans(due);
        due.end();
    }

    private static void units(Due due) {
        for (int u = 32; u <= 126; u++) {
            due.is("7: unit " + u, new LayerMoisture(1, 1).unit(u), true);
        }
        LayerMoisture x = new LayerMoisture(1, 1);
        int[] wrong = {31, 127, 0, -1, 10, 255, 256, 65536 + 'h', Integer.MAX_VALUE, Integer.MIN_VALUE};
        Boards.write(x, "h0:300");
        for (int u : wrong) {
            due.is("7: unit " + u, x.unit(u), false);
        }
        Boards.write(x, ",50");
        due.is("7: a wrong unit is not kept", x.schedule(), 1);
    }

    private static void room(Due due) {
        LayerMoisture x = new LayerMoisture(1, 1);
        for (int i = 0; i < 200; i++) {
            due.is("7: unit " + i + " of 200", x.unit(i % 95 + 32), true);
        }
        due.is("7: no room for 201", x.unit('h'), false);
        due.is("7: no room for 202, nor is it right", x.unit(0), false);
        due.is("8: the full text is wrong at 0", x.schedule(), -1);
        due.is("7: room again", x.unit('h'), true);
        due.is("8: the text was empty", x.schedule(), -2);
    }

    private static void answers(Due due) {
        Object[][] texts = {
            {"", -1}, {"w", -2}, {"h", -2}, {"x", -1}, {"W", -1}, {" w", -1}, {"wx", -2}, {"w:", -2},
            {"w5", -3}, {"w5;", -3}, {"w55", -4}, {"w555", -5}, {"w5555", -5}, {"w5:", -4}, {"w5:,", -4},
            {"w5:3", -4}, {"w5:3x", -4}, {"w5:30", -4}, {"w5:249", -4}, {"w5:249,5", -4},
            {"w5:250", -7}, {"w5:401", -4}, {"w5:400", -7}, {"w5:4000", -7}, {"w5:9999", -4},
            {"w5:000", -4}, {"w5:300:", -7}, {"w5:300,", -8}, {"w5:300,x", -8}, {"w5:300,;", -8},
            {"w5:300,101", -8}, {"w5:300,999", -8}, {"w5:300,1000", -11}, {"w5:300,101x", -8},
            {"w5:300,1014", -8}, {"w5:300,1x", -9}, {"w5:300,100,", -11}, {"w5:300,1;", -10},
            {"w5:300,1;;", -10}, {"w5:300,1;h", -11}, {"w5:300,1;h7:401,1", -13},
            {"w5:300,1;h7:300,100x", -20}, {"h-1:300,1", -2}, {"h1 :300,1", -3},
            {"w0:250,0", 1}, {"h999:400,100", 1}, {"h007:300,007", 1}, {"w5:300,1;h7:300,1", 2},
            {"w5:300,1;h7:300,1;h8:300,2", 3},
        };
        LayerMoisture x = new LayerMoisture(1, 1);
        for (Object[] t : texts) {
            due.is("8: schedule of '" + t[0] + "'", Boards.schedule(x, (String) t[0]), t[1]);
        }
    }

    private static void steps(Due due) {
        StringBuilder text = new StringBuilder();
        for (int steps = 1; steps <= 12; steps++) {
            text.append(steps == 1 ? "" : ";").append("h0:").append(250 + steps).append(",5");
            due.is("8: steps", Boards.schedule(new LayerMoisture(1, 1), text.toString()), steps);
        }
        int end = text.length();
        LayerMoisture x = new LayerMoisture(1, 1);
        due.is("8: no 13th step", Boards.schedule(x, text + ";h0:300,5"), -1 - end);
        due.is("8: no mark behind the 12th step", Boards.schedule(x, text + ";"), -1 - end);
        due.is("8: other than a mark there", Boards.schedule(x, text + "x"), -1 - end);
        due.is("8: wrong within the 12th step", Boards.schedule(x, text.substring(0, end - 1)), -1 - (end - 1));
        // A new object, as one is for 512 calls.
        LayerMoisture y = new LayerMoisture(1, 1);
        Boards.schedule(y, text.toString());
        for (int steps = 1; steps <= 13; steps++) {
            y.run(1);
            due.is("8: one step an hour", y.count(1), Math.min(steps, 12));
            due.is("8: KELVIN of the step", y.told(0), 250 + Math.min(steps, 12));
        }
    }

    private static void faultEndsSchedule(Due due) {
        LayerMoisture x = new LayerMoisture(1, 1);
        Boards.schedule(x, "h0:300,10;h0:310,20");
        x.run(1);
        due.is("18: a step was done", x.count(1), 1);
        due.is("8: fault", Boards.schedule(x, "h0:320,30;"), -11);
        due.is("18: of no schedule none was done", x.count(1), 0);
        x.run(3);
        due.is("8: no schedule, KELVIN as before", x.told(0), 300);
        due.is("8: no schedule, DAMP as before", x.told(1), 0.1);
        due.is("18: none is done", x.count(1), 0);
        due.is("8: an empty text ends it, too", Boards.schedule(x, "h0:320,30"), 1);
        due.is("8: empty", x.schedule(), -1);
        x.run(1);
        due.is("8: KELVIN as before", x.told(0), 300);
    }

    private static void newScheduleBeginsAnew(Due due) {
        LayerMoisture x = new LayerMoisture(1, 1);
        Boards.schedule(x, "h0:300,10;h0:310,20");
        x.run(2);
        due.is("18: both were done", x.count(1), 2);
        Boards.schedule(x, "h0:320,33");
        due.is("18: anew", x.count(1), 0);
        due.is("8: nothing before the hour", x.told(0), 310);
        x.run(1);
        due.is("8: KELVIN", x.told(0), 320);
        due.is("8: DAMP", x.told(1), 0.33);
        due.is("18: done", x.count(1), 1);
        x.air(280, 0.75, 0);
        x.run(5);
        due.is("8: a step is done once", x.told(0), 280);
        due.is("4: DAMP of air", x.told(1), 0.75);
    }

    private static void byHours(Due due) {
        LayerMoisture x = new LayerMoisture(1, 1);
        Boards.schedule(x, "h3:300,100;h1:310,0;h9:320,1");
        x.run(3);
        due.is("8: not yet", x.told(0), 293);
        x.run(1);
        due.is("8: the hour that begins with HOURS = 3", x.told(0), 300);
        due.is("8: DAMP 1", x.told(1), 1);
        due.is("18: one step", x.count(1), 1);
        x.run(1);
        due.is("8: the next step was late already", x.told(0), 310);
        due.is("8: DAMP 0", x.told(1), 0);
        x.run(4);
        due.is("18: not the third", x.count(1), 2);
        x.run(1);
        due.is("18: the third", x.count(1), 3);
    }

    private static void byWetness(Due due) {
        LayerMoisture x = new LayerMoisture(2, 2);
        x.air(293, 0.5, 0);
        Boards.schedule(x, "w999:300,10;w50:310,20;h0:320,30;w0:330,40");
        x.run(5);
        due.is("8: none there: never", x.count(1), 0);
        x.board(0, 80, 0.75, 0);
        x.soak(0, 1, 0.25);
        x.run(1);
        due.is("8: far below", x.told(0), 300);
        x.soak(0, 1, 0.26);
        x.run(3);
        due.is("8: above 0.5", x.count(1), 1);
        x.soak(0, 1, 0.25);
        x.run(1);
        due.is("8: 0.5 is at most 0.5", x.told(0), 310);
        x.run(2);
        due.is("8: w0 is not yet", x.count(1), 3);
        x.soak(0, 0, 0);
        x.soak(0, 1, 0);
        x.run(1);
        due.is("8: 0 is at most 0", x.told(0), 330);
        due.is("8: DAMP", x.told(1), 0.4);
    }

    private static void greatestOfMeans(Due due) {
        LayerMoisture x = new LayerMoisture(1, 3);
        x.air(293, 0.5, 0);
        x.board(0, 80, 0.25, 0);
        x.board(2, 80, 2, 0);
        Boards.schedule(x, "w25:300,10");
        x.run(1);
        due.is("8: one board is wetter", x.count(1), 0);
        x.soak(2, 0, 0);
        x.soak(0, 0, 2);
        x.run(1);
        due.is("8: now the other one is", x.count(1), 0);
        x.soak(0, 0, 0.25);
        x.run(1);
        due.is("8: all are at most 0.25", x.count(1), 1);
    }
}
