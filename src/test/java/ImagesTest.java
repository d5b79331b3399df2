/** Promises 30 and 31: images kept and restored. */
public final class ImagesTest {
    private static final Check CHECK = new Check();

    public static void main(String[] args) {
        refused();
        restored();
        overAnotherRepublic();
        CHECK.end();
    }

    private static void refused() {
        ProphetFines x = new ProphetFines();
        CHECK.due("image -1", x.image(-1), Check.BAD);
        CHECK.due("image 2", x.image(2), Check.BAD);
        CHECK.due("no republic", x.image(0), Check.STATE);
        CHECK.due("restore -1", x.restore(-1), Check.BAD);
        CHECK.due("restore 2", x.restore(2), Check.BAD);
        CHECK.due("none was kept", x.restore(1), Check.STATE);
        Check.tell(x, "f1,0;v1;");
        CHECK.due("kept", x.image(1), 1);
        CHECK.due("the other was not kept", x.restore(0), Check.STATE);
        CHECK.due("restored", x.restore(1), 1);
    }

    private static void restored() {
        ProphetFines x = Check.told("f10,7;v5;v10;w6;o6;");
        x.say(0, 0, 0, 0);
        x.year(1);
        x.chance(1, 4);
        x.say(1, 4, 0, 1);
        x.say(0, 1, 1, 1);
        CHECK.due("kept", x.image(0), 1);
        CHECK.due("an image is no act", x.count(5), 5);
        x.row(3, 1, 9);
        x.feed('f');
        x.row(0, 0, -1);
        x.ask(1, 0);
        x.unsay();
        x.year(3);
        x.chance(0, 1);
        x.chance(1, 1);
        x.say(0, 3, 0, 1);
        CHECK.due("another", x.image(1), 1);
        CHECK.due("restored", x.restore(0), 1);
        CHECK.due("sayings", x.count(3), 2);
        CHECK.due("years", x.count(4), 1);
        CHECK.due("no act can be undone", x.count(5), 0);
        CHECK.due("no act can be undone", x.undo(), Check.STATE);
        CHECK.due("chance of 0", x.odds(0, 0, 0), 100);
        CHECK.due("chance of 1", x.odds(0, 1, 1), 80);
        CHECK.due("purse", x.prophet(0, 0), -31);
        CHECK.due("right", x.prophet(0, 1), 1);
        CHECK.due("wrong of 1", x.prophet(1, 2), 0);
        CHECK.due("who", x.saying(0, 0), 1);
        CHECK.due("form", x.saying(0, 1), 4);
        CHECK.due("form", x.saying(1, 1), 1);
        CHECK.due("rows stay", x.count(0), 1);
        CHECK.due("the tape stays", x.count(6), 1);
        CHECK.due("status stays", x.status(), 4);
        CHECK.due("the trace stays", x.trace(0), 13);
        CHECK.due("an act", x.unsay(), 1);
        CHECK.due("undone", x.undo(), 0);
        CHECK.due("the other image", x.restore(1), 1);
        CHECK.due("its years", x.count(4), 2);
        CHECK.due("its sayings", x.count(3), 1);
        CHECK.due("the first is kept still", x.restore(0), 1);
        CHECK.due("its sayings", x.count(3), 2);
    }

    private static void overAnotherRepublic() {
        ProphetFines x = Check.told("f10,7;v5;v10;w6;o6;");
        x.image(0);
        Check.tell(x, "f1,1;v9;i0;");
        CHECK.due("images outlive a reading", x.restore(0), 1);
        CHECK.due("events", x.count(1), 2);
        CHECK.due("prophets", x.count(2), 2);
        CHECK.due("kind", x.kind(0), 1);
        CHECK.due("heed", x.prophet(1, 3), 6);
        x.say(0, 0, 0, 0);
        CHECK.due("the law", x.fine(0, 1), 37);
        x.image(0);
        CHECK.due("kept anew", x.restore(0), 1);
        CHECK.due("with the saying", x.count(3), 1);
    }
}
