/** Counts and prints the answers that are not the ones that are due. */
final class Check {
    private int wrong;
    private int made;
    private String place = "";

    /** Names what is tested from here on; "" for nothing. */
    void within(String newPlace) {
        place = newPlace;
    }

    void same(String call, long got, long due) {
        made++;
        if (got != due) {
            complain(call, String.valueOf(got), String.valueOf(due));
        }
    }

    void same(String call, boolean got, boolean due) {
        made++;
        if (got != due) {
            complain(call, String.valueOf(got), String.valueOf(due));
        }
    }

    void sameDouble(String call, double got, double due) {
        made++;
        if (Double.compare(got, due) != 0) {
            complain(call, String.valueOf(got), String.valueOf(due));
        }
    }

    void sameText(String call, String got, String due) {
        made++;
        if (!due.equals(got)) {
            complain(call, got, due);
        }
    }

    /** The call throws exactly an exception of the class that is due, none of a class below it. */
    void raises(String call, Class<? extends RuntimeException> due, Runnable body) {
        made++;
        String got = "nothing thrown";
        try {
            body.run();
        } catch (RuntimeException e) {
            if (e.getClass() == due) {
                return;
            }
            got = e.getClass().getName();
        }
        complain(call, got, due.getName());
    }

    /** The call throws nothing. */
    void passes(String call, Runnable body) {
        made++;
        try {
            body.run();
        } catch (RuntimeException e) {
            complain(call, e.getClass().getName(), "nothing thrown");
        }
    }

    /** Prints how it went and ends the program with exit code 1 if an answer was wrong. */
    void end(String test) {
        System.out.println(test + ": " + made + " checks, " + wrong + " wrong");
        if (wrong != 0 || made == 0) {
            System.exit(1);
        }
    }

    private void complain(String call, String got, String due) {
        wrong++;
        if (wrong <= 40) {
            String where = place.isEmpty() ? "" : place + ": ";
            System.out.println(where + call + " answered " + got + ", due is " + due);
        }
    }
}
