import java.util.ArrayList;
import java.util.List;
import java.util.Set;

/**
 * An object of the class behind some calls, made anew as often as it is asked for, so that what
 * one call does can be held against an object on which it was not called.
 */
final class Scene {
    private static final Set<String> ACTS = Set.of("setRule", "setCapacity", "addCar",
        "setPreference", "removeCar", "clearCars", "setRank", "nextArrangement", "shift",
        "readPath");
    private static final Set<String> TYPING = Set.of("type", "clearText", "text");

    private final int spaces;
    private final List<String> calls;

    Scene(int spaces, List<String> calls) {
        this.spaces = spaces;
        this.calls = calls;
    }

    Scene behind(String call) {
        List<String> longer = new ArrayList<>(calls);
        longer.add(call);
        return new Scene(spaces, longer);
    }

    /** The same object with six states behind it, none of them like another. */
    private Scene withFullHistory() {
        int before = Integer.parseInt(Calls.answer(object(), "setRule", 0, 0));
        Scene full = this;
        for (int i = 1; i <= 6; i++) {
            full = full.behind("setRule " + i % 4 + " " + i);
        }
        return full.behind("setRule " + before / 10 + " " + before % 10);
    }

    /** The same object, before any call that only asks. */
    private Scene withoutQuestions() {
        List<String> changes = new ArrayList<>();
        for (String call : calls) {
            String name = call.split(" ")[0];
            if (ACTS.contains(name) || TYPING.contains(name) || name.equals("undo")) {
                changes.add(call);
            }
        }
        return new Scene(spaces, changes);
    }

    ParkingRules object() {
        ParkingRules object = new ParkingRules(spaces);
        replay(object);
        return object;
    }

    Model model() {
        Model model = new Model(spaces);
        replay(model);
        return model;
    }

    private void replay(Object on) {
        for (String call : calls) {
            Calls.line(on, call);
        }
    }

    /** What the model answers to a call. */
    String dueTo(String call) {
        return Calls.line(model(), call);
    }

    /** The call must answer what is due, and leave behind what a call of its kind leaves. */
    void check(Check check, String title, String call, String due) {
        String what = title + ": " + call + " on " + spaces + " spaces behind " + calls;
        ParkingRules x = object();
        check.same(what, due, Calls.line(x, call));
        check.same(what + ", asked first", due, Calls.line(withoutQuestions().object(), call));
        Model model = model();
        check.same(what + ", the model", due, Calls.line(model, call));
        check.same(what + ", shown then", Calls.shown(model), Calls.shown(x));
        checkChange(check, what, call, due);
        // Behind six acts there is always something to undo.
        if (call.equals("undo") && due.endsWith("Exception")) {
            return;
        }
        withFullHistory().checkChange(check, what + ", full history", call, due);
    }

    private void checkChange(Check check, String what, String call, String due) {
        String name = call.split(" ")[0];
        boolean refused = due.endsWith("Exception");
        boolean misread = name.equals("readPath") && due.startsWith("-");
        if (!refused && !misread && ACTS.contains(name)) {
            checkAct(check, what, call, name);
        } else if (!refused && name.equals("undo")) {
            checkUndo(check, what, call);
        } else {
            checkNoAct(check, what, call, !refused && TYPING.contains(name));
        }
    }

    private void checkNoAct(Check check, String what, String call, boolean typing) {
        Scene behind = behind(call);
        check.same(what + " changes nothing", Calls.shown(object()),
            Calls.shown(behind.object()));
        check.same(what + " adds no state", Calls.states(object()),
            Calls.states(behind.object()));
        if (!typing) {
            check.same(what + " leaves the text", Calls.text(object()),
                Calls.text(behind.object()));
        }
    }

    private void checkAct(Check check, String what, String call, String name) {
        String before = Calls.answer(object(), "fingerprint") + " ";
        String[] states = Calls.states(object()).split(" ");
        int kept = Math.min(5, states.length - 1);
        StringBuilder due = new StringBuilder(before);
        for (int i = 0; i < kept; i++) {
            due.append(states[i]).append(' ');
        }
        due.append("IllegalStateException");
        check.same(what + " adds a state", due.toString(), Calls.states(behind(call).object()));
        Scene undone = behind(call).behind("undo");
        check.same(what + " and undo", Calls.shown(object()), Calls.shown(undone.object()));
        check.same(what + ", the states left", "" + kept,
            Calls.answer(behind(call).object(), "undo"));
        check.same(what + ", the text then",
            name.equals("readPath") ? "readPath -1; clearText 0" : Calls.text(object()),
            Calls.text(behind(call).object()));
    }

    private void checkUndo(Check check, String what, String call) {
        String all = Calls.states(object());
        check.same(what + " removes one state", all.substring(all.indexOf(' ') + 1),
            Calls.states(behind(call).object()));
        check.same(what + " leaves the text", Calls.text(object()),
            Calls.text(behind(call).object()));
    }
}
