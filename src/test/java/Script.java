import java.util.ArrayList;
import java.util.List;

/** Calls on a new object, to be played as often as twins of that object are wanted. */
final class Script {
    static final Script NEW = new Script(List.of());

    private final List<Call> calls;

    private Script(List<Call> calls) {
        this.calls = calls;
    }

    Script then(Call call) {
        List<Call> longer = new ArrayList<>(calls);
        longer.add(call);
        return new Script(longer);
    }

    Script then(String name, int... args) {
        return then(new Call(name, args));
    }

    Script thenSay(String text) {
        Script longer = this;
        for (int i = 0; i < text.length(); i++) {
            longer = longer.then("say", text.charAt(i));
        }
        return longer;
    }

    int size() {
        return calls.size();
    }

    HairLine play() {
        HairLine x = new HairLine();
        for (Call call : calls) {
            call.on(x);
        }
        return x;
    }
}
