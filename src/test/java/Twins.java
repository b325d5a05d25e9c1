import java.util.List;

/** Desks that were told two stories: what can be learnt of them must be the same. */
final class Twins {
    interface Story {
        void tell(WorksDesk desk);
    }

    interface Call {
        long on(WorksDesk desk);
    }

    /** A full desk, on which a call tries to change something. */
    private final Story story;

    Twins(Story story) {
        this.story = story;
    }

    /** The call answers what is due, and leaves everything as it was, the ROW too. */
    void refused(String name, long due, Call call) {
        WorksDesk desk = told(story);
        Check.is(name, call.on(desk), due);
        same(name + " leaves", behind(call), story, Everything.THE_ROW);
    }

    /** The call asks: it answers 0 or more, and leaves everything as it was but for the ROW. */
    void asked(String name, Call call) {
        Check.is(name + " is no refusal", call.on(told(story)) >= 0, true);
        same(name + " leaves", behind(call), story, Everything.THE_ROW + 1);
    }

    /** The call is no refusal, and leaves the ROW as it was. */
    void keepsTheRow(String name, Call call) {
        Check.is(name + " is no refusal", call.on(told(story)) >= 0, true);
        sameWay(name + " keeps", behind(call), story, Everything.THE_ROW);
    }

    private Story behind(Call call) {
        return desk -> {
            story.tell(desk);
            call.on(desk);
        };
    }

    /** Both stories come to the same, the ROW too. */
    static void same(String name, Story one, Story other) {
        same(name, one, other, Everything.THE_ROW);
    }

    /** Both stories come to the same but for the ROW. */
    static void sameButTheRow(String name, Story one, Story other) {
        same(name, one, other, Everything.THE_ROW + 1);
    }

    /** The stories do not come to the same: so that a test of likeness is none of blindness. */
    static boolean differ(Story one, Story other) {
        for (int way = Everything.THE_ROW + 1; way < Everything.WAYS; way++) {
            if (!Everything.of(told(one), way).equals(Everything.of(told(other), way))) {
                return true;
            }
        }
        return false;
    }

    private static void same(String name, Story one, Story other, int firstWay) {
        for (int way = firstWay; way < Everything.WAYS; way++) {
            sameWay(name, one, other, way);
        }
    }

    private static void sameWay(String name, Story one, Story other, int way) {
        List<String> got = Everything.of(told(one), way);
        List<String> due = Everything.of(told(other), way);
        int at = 0;
        while (at < got.size() && at < due.size() && got.get(at).equals(due.get(at))) {
            at++;
        }
        boolean alike = at == got.size() && at == due.size();
        Check.is(alike ? name : name + ": " + at(got, at) + " where it was " + at(due, at), alike, true);
    }

    private static String at(List<String> answers, int at) {
        return at < answers.size() ? answers.get(at) : "nothing";
    }

    private static WorksDesk told(Story story) {
        WorksDesk desk = new WorksDesk();
        story.tell(desk);
        return desk;
    }
}
